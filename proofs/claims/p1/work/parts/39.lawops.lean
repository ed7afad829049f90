/-! ===== the law's cases: from the switch to behind both answers; written by wip/gen/lawops.py ===== -/
def bz (x : Int32) : Int32 := if x = 0 then 0 else 1
theorem RP.bool {sc : Nat × (Nat → Int32)} {d : Nat} {M : aM} {p n1 n2 n3 t e : Nat} {lv : aL} {st : List Value} {H : aH} {kc ks : Nat} {r : tO × aH × Nat × Nat} {x : Int32} (h1 : lkI p (mT M) = some (n1, .ifCond .eq t)) (h2 : lkI n1 (mT M) = some (n2, .iconst 1)) (h3 : lkI n2 (mT M) = some (n3, .goto e)) (h4 : lkI t (mT M) = some (e, .iconst 0)) (k : RP sc d M e lv (.int (bz x) :: st) H kc ks r) : RP sc d M p lv (.int x :: st) H kc ks r := by
  unfold bz at k
  by_cases hx : x = 0
  · rw [if_pos hx] at k
    refine RP.brT (b := decide (x = 0)) (t := t) (st' := st) h1 rfl rfl (decide_eq_true hx) ?_
    exact RP.go (c := 0) (s := 0) h4 rfl k
  · rw [if_neg hx] at k
    refine RP.brF (b := decide (x = 0)) (t := t) (st' := st) h1 rfl rfl (decide_eq_false hx) ?_
    refine RP.go (c := 0) (s := 0) (pc' := n2) (lv' := lv) (st' := .int 1 :: st) (H' := H) h2 rfl ?_
    exact RP.go (c := 0) (s := 0) (pc' := e) (lv' := lv) (st' := .int 1 :: st) (H' := H) h3 rfl k
theorem args_v2 {M : aM} {H : aH} {a c : Nat} {fs st : List Value} {x1 x2 : Int32} (hS : mS M = 0) (hP : mP M = 2) (hL : 3 ≤ mL M) (hK : mK M = c) (hc : H[a]? = some (kO c fs)) (hs : cats st ≤ 8) : argsOf M 0 H (.int x2 :: .int x1 :: .ref (a + 1) :: st) = some ([.ref (a + 1), .int x1, .int x2], st) := by
  unfold argsOf isOb
  rw [hS, hP, hK]
  dsimp only [List.drop, List.take]
  rw [hc]
  dsimp only
  simp only [beq_self_eq_true]
  rw [show Nat.ble (cats st) 8 = true from Nat.ble_eq_true_of_le hs, show Nat.ble (1 + cats [.int x2, .int x1]) (mL M) = true from Nat.ble_eq_true_of_le hL]
  rfl
theorem args_v3 {M : aM} {H : aH} {a c : Nat} {fs st : List Value} {x1 x2 x3 : Int32} (hS : mS M = 0) (hP : mP M = 3) (hL : 4 ≤ mL M) (hK : mK M = c) (hc : H[a]? = some (kO c fs)) (hs : cats st ≤ 8) : argsOf M 0 H (.int x3 :: .int x2 :: .int x1 :: .ref (a + 1) :: st) = some ([.ref (a + 1), .int x1, .int x2, .int x3], st) := by
  unfold argsOf isOb
  rw [hS, hP, hK]
  dsimp only [List.drop, List.take]
  rw [hc]
  dsimp only
  simp only [beq_self_eq_true]
  rw [show Nat.ble (cats st) 8 = true from Nat.ble_eq_true_of_le hs, show Nat.ble (1 + cats [.int x3, .int x2, .int x1]) (mL M) = true from Nat.ble_eq_true_of_le hL]
  rfl
set_option maxRecDepth 100000 in
set_option maxHeartbeats 1000000 in
theorem law_op1 {L i : Nat} {xs : Nat → Int32} {kc ks c1 s1 c2 s2 : Nat} {H H1 H2 : aH} {fs1 : List Value} {kk v : Int32} {r : tO × aH × Nat × Nat} (hL : L < 2 ^ 30) (h : i + 6 ≤ L) (hw : RC (L, xs) 1999 mr_22 [.ref 1, .int (xs (i + 1)), .int (xs (i + 2)), .ref 225] H (.inl (some (.int kk))) H1 c1 s1) (hmo : H1[195]? = some (kO 12 fs1)) (hm : RC (L, xs) 1999 mr_263 [.ref 196, .int (xs (i + 1)), .int (xs (i + 2))] H1 (.inl (some (.int v))) H2 c2 s2)
    (k : RP (L, xs) 2000 mr_law 317 [(6, .int v), (5, .int kk), (4, .int (nI i)), (3, .ref 225), (2, .ref 196), (1, .ref 1), (0, .ref 0)] [] H2 (kc + c1 + c2) (ks + s1 + s2) r) : RP (L, xs) 2000 mr_law 280 [(4, .int (nI i)), (3, .ref 225), (2, .ref 196), (1, .ref 1), (0, .ref 0)] [] H kc ks r := by
  refine RP.blk 5 (pc' := 286) (lv' := [(4, .int (nI i)), (3, .ref 225), (2, .ref 196), (1, .ref 1), (0, .ref 0)]) (st' := [.int (nI i + 1), .ref 0, .ref 1]) (H' := H) (kc' := kc) (ks' := ks) rfl ?_
  rw [show nI i + 1 = nI (i + 1) from nI_add i 1]
  refine RP.sld rfl (by omega) (by omega) ?_
  refine RP.blk 4 (pc' := 292) (lv' := [(4, .int (nI i)), (3, .ref 225), (2, .ref 196), (1, .ref 1), (0, .ref 0)]) (st' := [.int (nI i + 2), .ref 0, .int (xs (i + 1)), .ref 1]) (H' := H) (kc' := kc) (ks' := ks) rfl ?_
  rw [show nI i + 2 = nI (i + 2) from nI_add i 2]
  refine RP.sld rfl (by omega) (by omega) ?_
  refine RP.blk 1 (pc' := 294) (lv' := [(4, .int (nI i)), (3, .ref 225), (2, .ref 196), (1, .ref 1), (0, .ref 0)]) (st' := [.ref 225, .int (xs (i + 2)), .int (xs (i + 1)), .ref 1]) (H' := H) (kc' := kc) (ks' := ks) rfl ?_
  refine RP.call (v := some (.int kk)) (st' := []) rfl rfl rfl rfl rfl rfl rfl hw ?_
  refine RP.blk 1 (pc' := 299) (lv' := [(5, .int kk), (4, .int (nI i)), (3, .ref 225), (2, .ref 196), (1, .ref 1), (0, .ref 0)]) (st' := []) (H' := H1) (kc' := kc + c1) (ks' := ks + s1) rfl ?_
  refine RP.blk 5 (pc' := 305) (lv' := [(5, .int kk), (4, .int (nI i)), (3, .ref 225), (2, .ref 196), (1, .ref 1), (0, .ref 0)]) (st' := [.int (nI i + 1), .ref 0, .ref 196]) (H' := H1) (kc' := kc + c1) (ks' := ks + s1) rfl ?_
  rw [show nI i + 1 = nI (i + 1) from nI_add i 1]
  refine RP.sld rfl (by omega) (by omega) ?_
  refine RP.blk 4 (pc' := 311) (lv' := [(5, .int kk), (4, .int (nI i)), (3, .ref 225), (2, .ref 196), (1, .ref 1), (0, .ref 0)]) (st' := [.int (nI i + 2), .ref 0, .int (xs (i + 1)), .ref 196]) (H' := H1) (kc' := kc + c1) (ks' := ks + s1) rfl ?_
  rw [show nI i + 2 = nI (i + 2) from nI_add i 2]
  refine RP.sld rfl (by omega) (by omega) ?_
  refine RP.call (v := some (.int v)) (st' := []) rfl rfl rfl rfl rfl rfl (args_v2 (a := 195) rfl rfl (by decide) rfl hmo (by decide)) hm ?_
  refine RP.blk 1 (pc' := 317) (lv' := [(6, .int v), (5, .int kk), (4, .int (nI i)), (3, .ref 225), (2, .ref 196), (1, .ref 1), (0, .ref 0)]) (st' := []) (H' := H2) (kc' := kc + c1 + c2) (ks' := ks + s1 + s2) rfl ?_
  exact k
set_option maxRecDepth 100000 in
set_option maxHeartbeats 1000000 in
theorem law_op2 {L i : Nat} {xs : Nat → Int32} {kc ks c1 s1 c2 s2 : Nat} {H H1 H2 : aH} {fs1 : List Value} {kk v : Int32} {r : tO × aH × Nat × Nat} (hL : L < 2 ^ 30) (h : i + 6 ≤ L) (hw : RC (L, xs) 1999 mr_25 [.ref 1, .int (xs (i + 1)), .ref 225] H (.inl (some (.int kk))) H1 c1 s1) (hmo : H1[195]? = some (kO 12 fs1)) (hm : RC (L, xs) 1999 mr_265 [.ref 196, .int (xs (i + 1))] H1 (.inl (some (.int v))) H2 c2 s2)
    (k : RP (L, xs) 2000 mr_law 373 [(6, .int v), (5, .int kk), (4, .int (nI i)), (3, .ref 225), (2, .ref 196), (1, .ref 1), (0, .ref 0)] [] H2 (kc + c1 + c2) (ks + s1 + s2) r) : RP (L, xs) 2000 mr_law 348 [(4, .int (nI i)), (3, .ref 225), (2, .ref 196), (1, .ref 1), (0, .ref 0)] [] H kc ks r := by
  refine RP.blk 5 (pc' := 354) (lv' := [(4, .int (nI i)), (3, .ref 225), (2, .ref 196), (1, .ref 1), (0, .ref 0)]) (st' := [.int (nI i + 1), .ref 0, .ref 1]) (H' := H) (kc' := kc) (ks' := ks) rfl ?_
  rw [show nI i + 1 = nI (i + 1) from nI_add i 1]
  refine RP.sld rfl (by omega) (by omega) ?_
  refine RP.blk 1 (pc' := 356) (lv' := [(4, .int (nI i)), (3, .ref 225), (2, .ref 196), (1, .ref 1), (0, .ref 0)]) (st' := [.ref 225, .int (xs (i + 1)), .ref 1]) (H' := H) (kc' := kc) (ks' := ks) rfl ?_
  refine RP.call (v := some (.int kk)) (st' := []) rfl rfl rfl rfl rfl rfl rfl hw ?_
  refine RP.blk 1 (pc' := 361) (lv' := [(5, .int kk), (4, .int (nI i)), (3, .ref 225), (2, .ref 196), (1, .ref 1), (0, .ref 0)]) (st' := []) (H' := H1) (kc' := kc + c1) (ks' := ks + s1) rfl ?_
  refine RP.blk 5 (pc' := 367) (lv' := [(5, .int kk), (4, .int (nI i)), (3, .ref 225), (2, .ref 196), (1, .ref 1), (0, .ref 0)]) (st' := [.int (nI i + 1), .ref 0, .ref 196]) (H' := H1) (kc' := kc + c1) (ks' := ks + s1) rfl ?_
  rw [show nI i + 1 = nI (i + 1) from nI_add i 1]
  refine RP.sld rfl (by omega) (by omega) ?_
  refine RP.call (v := some (.int v)) (st' := []) rfl rfl rfl rfl rfl rfl (args_v1 (a := 195) rfl rfl (by decide) rfl hmo (by decide)) hm ?_
  refine RP.blk 1 (pc' := 373) (lv' := [(6, .int v), (5, .int kk), (4, .int (nI i)), (3, .ref 225), (2, .ref 196), (1, .ref 1), (0, .ref 0)]) (st' := []) (H' := H2) (kc' := kc + c1 + c2) (ks' := ks + s1 + s2) rfl ?_
  exact k
set_option maxRecDepth 100000 in
set_option maxHeartbeats 1000000 in
theorem law_op3 {L i : Nat} {xs : Nat → Int32} {kc ks c1 s1 c2 s2 : Nat} {H H1 H2 : aH} {fs1 : List Value} {kk v : Int32} {r : tO × aH × Nat × Nat} (hL : L < 2 ^ 30) (h : i + 6 ≤ L) (hw : RC (L, xs) 1999 mr_27 [.ref 1, .ref 225] H (.inl (some (.int kk))) H1 c1 s1) (hmo : H1[195]? = some (kO 12 fs1)) (hm : RC (L, xs) 1999 mr_282 [.ref 196] H1 (.inl (some (.int v))) H2 c2 s2)
    (k : RP (L, xs) 2000 mr_law 417 [(6, .int v), (5, .int kk), (4, .int (nI i)), (3, .ref 225), (2, .ref 196), (1, .ref 1), (0, .ref 0)] [] H2 (kc + c1 + c2) (ks + s1 + s2) r) : RP (L, xs) 2000 mr_law 404 [(4, .int (nI i)), (3, .ref 225), (2, .ref 196), (1, .ref 1), (0, .ref 0)] [] H kc ks r := by
  refine RP.blk 2 (pc' := 406) (lv' := [(4, .int (nI i)), (3, .ref 225), (2, .ref 196), (1, .ref 1), (0, .ref 0)]) (st' := [.ref 225, .ref 1]) (H' := H) (kc' := kc) (ks' := ks) rfl ?_
  refine RP.call (v := some (.int kk)) (st' := []) rfl rfl rfl rfl rfl rfl rfl hw ?_
  refine RP.blk 1 (pc' := 411) (lv' := [(5, .int kk), (4, .int (nI i)), (3, .ref 225), (2, .ref 196), (1, .ref 1), (0, .ref 0)]) (st' := []) (H' := H1) (kc' := kc + c1) (ks' := ks + s1) rfl ?_
  refine RP.blk 1 (pc' := 412) (lv' := [(5, .int kk), (4, .int (nI i)), (3, .ref 225), (2, .ref 196), (1, .ref 1), (0, .ref 0)]) (st' := [.ref 196]) (H' := H1) (kc' := kc + c1) (ks' := ks + s1) rfl ?_
  refine RP.call (v := some (.int v)) (st' := []) rfl rfl rfl rfl rfl rfl (args_v0 (a := 195) rfl rfl (by decide) rfl hmo (by decide)) hm ?_
  refine RP.blk 1 (pc' := 417) (lv' := [(6, .int v), (5, .int kk), (4, .int (nI i)), (3, .ref 225), (2, .ref 196), (1, .ref 1), (0, .ref 0)]) (st' := []) (H' := H2) (kc' := kc + c1 + c2) (ks' := ks + s1 + s2) rfl ?_
  exact k
set_option maxRecDepth 100000 in
set_option maxHeartbeats 1000000 in
theorem law_op4 {L i : Nat} {xs : Nat → Int32} {kc ks c1 s1 c2 s2 : Nat} {H H1 H2 : aH} {fs1 : List Value} {kk v : Int32} {r : tO × aH × Nat × Nat} (hL : L < 2 ^ 30) (h : i + 6 ≤ L) (hw : RC (L, xs) 1999 mr_32 [.ref 1, .int (xs (i + 1)), .int (xs (i + 2)), .ref 225] H (.inl (some (.int kk))) H1 c1 s1) (hmo : H1[195]? = some (kO 12 fs1)) (hm : RC (L, xs) 1999 mr_283 [.ref 196, .int (xs (i + 1)), .int (xs (i + 2))] H1 (.inl (some (.int v))) H2 c2 s2)
    (k : RP (L, xs) 2000 mr_law 485 [(6, .int v), (5, .int kk), (4, .int (nI i)), (3, .ref 225), (2, .ref 196), (1, .ref 1), (0, .ref 0)] [] H2 (kc + c1 + c2) (ks + s1 + s2) r) : RP (L, xs) 2000 mr_law 448 [(4, .int (nI i)), (3, .ref 225), (2, .ref 196), (1, .ref 1), (0, .ref 0)] [] H kc ks r := by
  refine RP.blk 5 (pc' := 454) (lv' := [(4, .int (nI i)), (3, .ref 225), (2, .ref 196), (1, .ref 1), (0, .ref 0)]) (st' := [.int (nI i + 1), .ref 0, .ref 1]) (H' := H) (kc' := kc) (ks' := ks) rfl ?_
  rw [show nI i + 1 = nI (i + 1) from nI_add i 1]
  refine RP.sld rfl (by omega) (by omega) ?_
  refine RP.blk 4 (pc' := 460) (lv' := [(4, .int (nI i)), (3, .ref 225), (2, .ref 196), (1, .ref 1), (0, .ref 0)]) (st' := [.int (nI i + 2), .ref 0, .int (xs (i + 1)), .ref 1]) (H' := H) (kc' := kc) (ks' := ks) rfl ?_
  rw [show nI i + 2 = nI (i + 2) from nI_add i 2]
  refine RP.sld rfl (by omega) (by omega) ?_
  refine RP.blk 1 (pc' := 462) (lv' := [(4, .int (nI i)), (3, .ref 225), (2, .ref 196), (1, .ref 1), (0, .ref 0)]) (st' := [.ref 225, .int (xs (i + 2)), .int (xs (i + 1)), .ref 1]) (H' := H) (kc' := kc) (ks' := ks) rfl ?_
  refine RP.call (v := some (.int kk)) (st' := []) rfl rfl rfl rfl rfl rfl rfl hw ?_
  refine RP.blk 1 (pc' := 467) (lv' := [(5, .int kk), (4, .int (nI i)), (3, .ref 225), (2, .ref 196), (1, .ref 1), (0, .ref 0)]) (st' := []) (H' := H1) (kc' := kc + c1) (ks' := ks + s1) rfl ?_
  refine RP.blk 5 (pc' := 473) (lv' := [(5, .int kk), (4, .int (nI i)), (3, .ref 225), (2, .ref 196), (1, .ref 1), (0, .ref 0)]) (st' := [.int (nI i + 1), .ref 0, .ref 196]) (H' := H1) (kc' := kc + c1) (ks' := ks + s1) rfl ?_
  rw [show nI i + 1 = nI (i + 1) from nI_add i 1]
  refine RP.sld rfl (by omega) (by omega) ?_
  refine RP.blk 4 (pc' := 479) (lv' := [(5, .int kk), (4, .int (nI i)), (3, .ref 225), (2, .ref 196), (1, .ref 1), (0, .ref 0)]) (st' := [.int (nI i + 2), .ref 0, .int (xs (i + 1)), .ref 196]) (H' := H1) (kc' := kc + c1) (ks' := ks + s1) rfl ?_
  rw [show nI i + 2 = nI (i + 2) from nI_add i 2]
  refine RP.sld rfl (by omega) (by omega) ?_
  refine RP.call (v := some (.int v)) (st' := []) rfl rfl rfl rfl rfl rfl (args_v2 (a := 195) rfl rfl (by decide) rfl hmo (by decide)) hm ?_
  refine RP.blk 1 (pc' := 485) (lv' := [(6, .int v), (5, .int kk), (4, .int (nI i)), (3, .ref 225), (2, .ref 196), (1, .ref 1), (0, .ref 0)]) (st' := []) (H' := H2) (kc' := kc + c1 + c2) (ks' := ks + s1 + s2) rfl ?_
  exact k
set_option maxRecDepth 100000 in
set_option maxHeartbeats 1000000 in
theorem law_op5 {L i : Nat} {xs : Nat → Int32} {kc ks c1 s1 c2 s2 : Nat} {H H1 H2 : aH} {fs1 : List Value} {kk v : Int32} {r : tO × aH × Nat × Nat} (hL : L < 2 ^ 30) (h : i + 6 ≤ L) (hw : RC (L, xs) 1999 mr_50 [.ref 1, .int (xs (i + 1)), .ref 225] H (.inl (some (.int kk))) H1 c1 s1) (hmo : H1[195]? = some (kO 12 fs1)) (hm : RC (L, xs) 1999 mr_288 [.ref 196, .int (xs (i + 1))] H1 (.inl (some (.int v))) H2 c2 s2)
    (k : RP (L, xs) 2000 mr_law 541 [(6, .int v), (5, .int kk), (4, .int (nI i)), (3, .ref 225), (2, .ref 196), (1, .ref 1), (0, .ref 0)] [] H2 (kc + c1 + c2) (ks + s1 + s2) r) : RP (L, xs) 2000 mr_law 516 [(4, .int (nI i)), (3, .ref 225), (2, .ref 196), (1, .ref 1), (0, .ref 0)] [] H kc ks r := by
  refine RP.blk 5 (pc' := 522) (lv' := [(4, .int (nI i)), (3, .ref 225), (2, .ref 196), (1, .ref 1), (0, .ref 0)]) (st' := [.int (nI i + 1), .ref 0, .ref 1]) (H' := H) (kc' := kc) (ks' := ks) rfl ?_
  rw [show nI i + 1 = nI (i + 1) from nI_add i 1]
  refine RP.sld rfl (by omega) (by omega) ?_
  refine RP.blk 1 (pc' := 524) (lv' := [(4, .int (nI i)), (3, .ref 225), (2, .ref 196), (1, .ref 1), (0, .ref 0)]) (st' := [.ref 225, .int (xs (i + 1)), .ref 1]) (H' := H) (kc' := kc) (ks' := ks) rfl ?_
  refine RP.call (v := some (.int kk)) (st' := []) rfl rfl rfl rfl rfl rfl rfl hw ?_
  refine RP.blk 1 (pc' := 529) (lv' := [(5, .int kk), (4, .int (nI i)), (3, .ref 225), (2, .ref 196), (1, .ref 1), (0, .ref 0)]) (st' := []) (H' := H1) (kc' := kc + c1) (ks' := ks + s1) rfl ?_
  refine RP.blk 5 (pc' := 535) (lv' := [(5, .int kk), (4, .int (nI i)), (3, .ref 225), (2, .ref 196), (1, .ref 1), (0, .ref 0)]) (st' := [.int (nI i + 1), .ref 0, .ref 196]) (H' := H1) (kc' := kc + c1) (ks' := ks + s1) rfl ?_
  rw [show nI i + 1 = nI (i + 1) from nI_add i 1]
  refine RP.sld rfl (by omega) (by omega) ?_
  refine RP.call (v := some (.int v)) (st' := []) rfl rfl rfl rfl rfl rfl (args_v1 (a := 195) rfl rfl (by decide) rfl hmo (by decide)) hm ?_
  refine RP.blk 1 (pc' := 541) (lv' := [(6, .int v), (5, .int kk), (4, .int (nI i)), (3, .ref 225), (2, .ref 196), (1, .ref 1), (0, .ref 0)]) (st' := []) (H' := H2) (kc' := kc + c1 + c2) (ks' := ks + s1 + s2) rfl ?_
  exact k
set_option maxRecDepth 100000 in
set_option maxHeartbeats 1000000 in
theorem law_op6 {L i : Nat} {xs : Nat → Int32} {kc ks c1 s1 c2 s2 : Nat} {H H1 H2 : aH} {fs1 : List Value} {kk v : Int32} {r : tO × aH × Nat × Nat} (hL : L < 2 ^ 30) (h : i + 6 ≤ L) (hw : RC (L, xs) 1999 mr_52 [.ref 1, .int (xs (i + 1)), .ref 225] H (.inl (some (.int kk))) H1 c1 s1) (hmo : H1[195]? = some (kO 12 fs1)) (hm : RC (L, xs) 1999 mr_289 [.ref 196, .int (xs (i + 1))] H1 (.inl (some (.int v))) H2 c2 s2)
    (k : RP (L, xs) 2000 mr_law 597 [(6, .int v), (5, .int kk), (4, .int (nI i)), (3, .ref 225), (2, .ref 196), (1, .ref 1), (0, .ref 0)] [] H2 (kc + c1 + c2) (ks + s1 + s2) r) : RP (L, xs) 2000 mr_law 572 [(4, .int (nI i)), (3, .ref 225), (2, .ref 196), (1, .ref 1), (0, .ref 0)] [] H kc ks r := by
  refine RP.blk 5 (pc' := 578) (lv' := [(4, .int (nI i)), (3, .ref 225), (2, .ref 196), (1, .ref 1), (0, .ref 0)]) (st' := [.int (nI i + 1), .ref 0, .ref 1]) (H' := H) (kc' := kc) (ks' := ks) rfl ?_
  rw [show nI i + 1 = nI (i + 1) from nI_add i 1]
  refine RP.sld rfl (by omega) (by omega) ?_
  refine RP.blk 1 (pc' := 580) (lv' := [(4, .int (nI i)), (3, .ref 225), (2, .ref 196), (1, .ref 1), (0, .ref 0)]) (st' := [.ref 225, .int (xs (i + 1)), .ref 1]) (H' := H) (kc' := kc) (ks' := ks) rfl ?_
  refine RP.call (v := some (.int kk)) (st' := []) rfl rfl rfl rfl rfl rfl rfl hw ?_
  refine RP.blk 1 (pc' := 585) (lv' := [(5, .int kk), (4, .int (nI i)), (3, .ref 225), (2, .ref 196), (1, .ref 1), (0, .ref 0)]) (st' := []) (H' := H1) (kc' := kc + c1) (ks' := ks + s1) rfl ?_
  refine RP.blk 5 (pc' := 591) (lv' := [(5, .int kk), (4, .int (nI i)), (3, .ref 225), (2, .ref 196), (1, .ref 1), (0, .ref 0)]) (st' := [.int (nI i + 1), .ref 0, .ref 196]) (H' := H1) (kc' := kc + c1) (ks' := ks + s1) rfl ?_
  rw [show nI i + 1 = nI (i + 1) from nI_add i 1]
  refine RP.sld rfl (by omega) (by omega) ?_
  refine RP.call (v := some (.int v)) (st' := []) rfl rfl rfl rfl rfl rfl (args_v1 (a := 195) rfl rfl (by decide) rfl hmo (by decide)) hm ?_
  refine RP.blk 1 (pc' := 597) (lv' := [(6, .int v), (5, .int kk), (4, .int (nI i)), (3, .ref 225), (2, .ref 196), (1, .ref 1), (0, .ref 0)]) (st' := []) (H' := H2) (kc' := kc + c1 + c2) (ks' := ks + s1 + s2) rfl ?_
  exact k
set_option maxRecDepth 100000 in
set_option maxHeartbeats 1000000 in
theorem law_op7 {L i : Nat} {xs : Nat → Int32} {kc ks c1 s1 c2 s2 : Nat} {H H1 H2 : aH} {fs1 : List Value} {kk v : Int32} {r : tO × aH × Nat × Nat} (hL : L < 2 ^ 30) (h : i + 6 ≤ L) (hw : RC (L, xs) 1999 mr_68 [.ref 1, .int (xs (i + 1)), .int (bz (xs (i + 2))), .ref 225] H (.inl (some (.int kk))) H1 c1 s1) (hmo : H1[195]? = some (kO 12 fs1)) (hm : RC (L, xs) 1999 mr_292 [.ref 196, .int (xs (i + 1)), .int (bz (xs (i + 2)))] H1 (.inl (some (.int v))) H2 c2 s2)
    (k : RP (L, xs) 2000 mr_law 681 [(6, .int v), (5, .int kk), (4, .int (nI i)), (3, .ref 225), (2, .ref 196), (1, .ref 1), (0, .ref 0)] [] H2 (kc + c1 + c2) (ks + s1 + s2) r) : RP (L, xs) 2000 mr_law 628 [(4, .int (nI i)), (3, .ref 225), (2, .ref 196), (1, .ref 1), (0, .ref 0)] [] H kc ks r := by
  refine RP.blk 5 (pc' := 634) (lv' := [(4, .int (nI i)), (3, .ref 225), (2, .ref 196), (1, .ref 1), (0, .ref 0)]) (st' := [.int (nI i + 1), .ref 0, .ref 1]) (H' := H) (kc' := kc) (ks' := ks) rfl ?_
  rw [show nI i + 1 = nI (i + 1) from nI_add i 1]
  refine RP.sld rfl (by omega) (by omega) ?_
  refine RP.blk 4 (pc' := 640) (lv' := [(4, .int (nI i)), (3, .ref 225), (2, .ref 196), (1, .ref 1), (0, .ref 0)]) (st' := [.int (nI i + 2), .ref 0, .int (xs (i + 1)), .ref 1]) (H' := H) (kc' := kc) (ks' := ks) rfl ?_
  rw [show nI i + 2 = nI (i + 2) from nI_add i 2]
  refine RP.sld rfl (by omega) (by omega) ?_
  refine RP.bool rfl rfl rfl rfl ?_
  refine RP.blk 1 (pc' := 650) (lv' := [(4, .int (nI i)), (3, .ref 225), (2, .ref 196), (1, .ref 1), (0, .ref 0)]) (st' := [.ref 225, .int (bz (xs (i + 2))), .int (xs (i + 1)), .ref 1]) (H' := H) (kc' := kc) (ks' := ks) rfl ?_
  refine RP.call (v := some (.int kk)) (st' := []) rfl rfl rfl rfl rfl rfl rfl hw ?_
  refine RP.blk 1 (pc' := 655) (lv' := [(5, .int kk), (4, .int (nI i)), (3, .ref 225), (2, .ref 196), (1, .ref 1), (0, .ref 0)]) (st' := []) (H' := H1) (kc' := kc + c1) (ks' := ks + s1) rfl ?_
  refine RP.blk 5 (pc' := 661) (lv' := [(5, .int kk), (4, .int (nI i)), (3, .ref 225), (2, .ref 196), (1, .ref 1), (0, .ref 0)]) (st' := [.int (nI i + 1), .ref 0, .ref 196]) (H' := H1) (kc' := kc + c1) (ks' := ks + s1) rfl ?_
  rw [show nI i + 1 = nI (i + 1) from nI_add i 1]
  refine RP.sld rfl (by omega) (by omega) ?_
  refine RP.blk 4 (pc' := 667) (lv' := [(5, .int kk), (4, .int (nI i)), (3, .ref 225), (2, .ref 196), (1, .ref 1), (0, .ref 0)]) (st' := [.int (nI i + 2), .ref 0, .int (xs (i + 1)), .ref 196]) (H' := H1) (kc' := kc + c1) (ks' := ks + s1) rfl ?_
  rw [show nI i + 2 = nI (i + 2) from nI_add i 2]
  refine RP.sld rfl (by omega) (by omega) ?_
  refine RP.bool rfl rfl rfl rfl ?_
  refine RP.call (v := some (.int v)) (st' := []) rfl rfl rfl rfl rfl rfl (args_v2 (a := 195) rfl rfl (by decide) rfl hmo (by decide)) hm ?_
  refine RP.blk 1 (pc' := 681) (lv' := [(6, .int v), (5, .int kk), (4, .int (nI i)), (3, .ref 225), (2, .ref 196), (1, .ref 1), (0, .ref 0)]) (st' := []) (H' := H2) (kc' := kc + c1 + c2) (ks' := ks + s1 + s2) rfl ?_
  exact k
set_option maxRecDepth 100000 in
set_option maxHeartbeats 1000000 in
theorem law_op8 {L i : Nat} {xs : Nat → Int32} {kc ks c1 s1 c2 s2 : Nat} {H H1 H2 : aH} {fs1 : List Value} {kk v : Int32} {r : tO × aH × Nat × Nat} (hL : L < 2 ^ 30) (h : i + 6 ≤ L) (hw : RC (L, xs) 1999 mr_76 [.ref 1, .int (xs (i + 1)), .ref 225] H (.inl (some (.int kk))) H1 c1 s1) (hmo : H1[195]? = some (kO 12 fs1)) (hm : RC (L, xs) 1999 mr_295 [.ref 196, .int (xs (i + 1))] H1 (.inl (some (.int v))) H2 c2 s2)
    (k : RP (L, xs) 2000 mr_law 737 [(6, .int v), (5, .int kk), (4, .int (nI i)), (3, .ref 225), (2, .ref 196), (1, .ref 1), (0, .ref 0)] [] H2 (kc + c1 + c2) (ks + s1 + s2) r) : RP (L, xs) 2000 mr_law 712 [(4, .int (nI i)), (3, .ref 225), (2, .ref 196), (1, .ref 1), (0, .ref 0)] [] H kc ks r := by
  refine RP.blk 5 (pc' := 718) (lv' := [(4, .int (nI i)), (3, .ref 225), (2, .ref 196), (1, .ref 1), (0, .ref 0)]) (st' := [.int (nI i + 1), .ref 0, .ref 1]) (H' := H) (kc' := kc) (ks' := ks) rfl ?_
  rw [show nI i + 1 = nI (i + 1) from nI_add i 1]
  refine RP.sld rfl (by omega) (by omega) ?_
  refine RP.blk 1 (pc' := 720) (lv' := [(4, .int (nI i)), (3, .ref 225), (2, .ref 196), (1, .ref 1), (0, .ref 0)]) (st' := [.ref 225, .int (xs (i + 1)), .ref 1]) (H' := H) (kc' := kc) (ks' := ks) rfl ?_
  refine RP.call (v := some (.int kk)) (st' := []) rfl rfl rfl rfl rfl rfl rfl hw ?_
  refine RP.blk 1 (pc' := 725) (lv' := [(5, .int kk), (4, .int (nI i)), (3, .ref 225), (2, .ref 196), (1, .ref 1), (0, .ref 0)]) (st' := []) (H' := H1) (kc' := kc + c1) (ks' := ks + s1) rfl ?_
  refine RP.blk 5 (pc' := 731) (lv' := [(5, .int kk), (4, .int (nI i)), (3, .ref 225), (2, .ref 196), (1, .ref 1), (0, .ref 0)]) (st' := [.int (nI i + 1), .ref 0, .ref 196]) (H' := H1) (kc' := kc + c1) (ks' := ks + s1) rfl ?_
  rw [show nI i + 1 = nI (i + 1) from nI_add i 1]
  refine RP.sld rfl (by omega) (by omega) ?_
  refine RP.call (v := some (.int v)) (st' := []) rfl rfl rfl rfl rfl rfl (args_v1 (a := 195) rfl rfl (by decide) rfl hmo (by decide)) hm ?_
  refine RP.blk 1 (pc' := 737) (lv' := [(6, .int v), (5, .int kk), (4, .int (nI i)), (3, .ref 225), (2, .ref 196), (1, .ref 1), (0, .ref 0)]) (st' := []) (H' := H2) (kc' := kc + c1 + c2) (ks' := ks + s1 + s2) rfl ?_
  exact k
set_option maxRecDepth 100000 in
set_option maxHeartbeats 1000000 in
theorem law_op9 {L i : Nat} {xs : Nat → Int32} {kc ks c1 s1 c2 s2 : Nat} {H H1 H2 : aH} {fs1 : List Value} {kk v : Int32} {r : tO × aH × Nat × Nat} (hL : L < 2 ^ 30) (h : i + 6 ≤ L) (hw : RC (L, xs) 1999 mr_163 [.ref 1, .int (xs (i + 1)), .ref 225] H (.inl (some (.int kk))) H1 c1 s1) (hmo : H1[195]? = some (kO 12 fs1)) (hm : RC (L, xs) 1999 mr_299 [.ref 196, .int (xs (i + 1))] H1 (.inl (some (.int v))) H2 c2 s2)
    (k : RP (L, xs) 2000 mr_law 793 [(6, .int v), (5, .int kk), (4, .int (nI i)), (3, .ref 225), (2, .ref 196), (1, .ref 1), (0, .ref 0)] [] H2 (kc + c1 + c2) (ks + s1 + s2) r) : RP (L, xs) 2000 mr_law 768 [(4, .int (nI i)), (3, .ref 225), (2, .ref 196), (1, .ref 1), (0, .ref 0)] [] H kc ks r := by
  refine RP.blk 5 (pc' := 774) (lv' := [(4, .int (nI i)), (3, .ref 225), (2, .ref 196), (1, .ref 1), (0, .ref 0)]) (st' := [.int (nI i + 1), .ref 0, .ref 1]) (H' := H) (kc' := kc) (ks' := ks) rfl ?_
  rw [show nI i + 1 = nI (i + 1) from nI_add i 1]
  refine RP.sld rfl (by omega) (by omega) ?_
  refine RP.blk 1 (pc' := 776) (lv' := [(4, .int (nI i)), (3, .ref 225), (2, .ref 196), (1, .ref 1), (0, .ref 0)]) (st' := [.ref 225, .int (xs (i + 1)), .ref 1]) (H' := H) (kc' := kc) (ks' := ks) rfl ?_
  refine RP.call (v := some (.int kk)) (st' := []) rfl rfl rfl rfl rfl rfl rfl hw ?_
  refine RP.blk 1 (pc' := 781) (lv' := [(5, .int kk), (4, .int (nI i)), (3, .ref 225), (2, .ref 196), (1, .ref 1), (0, .ref 0)]) (st' := []) (H' := H1) (kc' := kc + c1) (ks' := ks + s1) rfl ?_
  refine RP.blk 5 (pc' := 787) (lv' := [(5, .int kk), (4, .int (nI i)), (3, .ref 225), (2, .ref 196), (1, .ref 1), (0, .ref 0)]) (st' := [.int (nI i + 1), .ref 0, .ref 196]) (H' := H1) (kc' := kc + c1) (ks' := ks + s1) rfl ?_
  rw [show nI i + 1 = nI (i + 1) from nI_add i 1]
  refine RP.sld rfl (by omega) (by omega) ?_
  refine RP.call (v := some (.int v)) (st' := []) rfl rfl rfl rfl rfl rfl (args_v1 (a := 195) rfl rfl (by decide) rfl hmo (by decide)) hm ?_
  refine RP.blk 1 (pc' := 793) (lv' := [(6, .int v), (5, .int kk), (4, .int (nI i)), (3, .ref 225), (2, .ref 196), (1, .ref 1), (0, .ref 0)]) (st' := []) (H' := H2) (kc' := kc + c1 + c2) (ks' := ks + s1 + s2) rfl ?_
  exact k
set_option maxRecDepth 100000 in
set_option maxHeartbeats 1000000 in
theorem law_op10 {L i : Nat} {xs : Nat → Int32} {kc ks c1 s1 c2 s2 : Nat} {H H1 H2 : aH} {fs1 : List Value} {kk v : Int32} {r : tO × aH × Nat × Nat} (hL : L < 2 ^ 30) (h : i + 6 ≤ L) (hw : RC (L, xs) 1999 mr_165 [.ref 1, .ref 225] H (.inl (some (.int kk))) H1 c1 s1) (hmo : H1[195]? = some (kO 12 fs1)) (hm : RC (L, xs) 1999 mr_275 [.ref 196] H1 (.inl (some (.int v))) H2 c2 s2)
    (k : RP (L, xs) 2000 mr_law 837 [(6, .int v), (5, .int kk), (4, .int (nI i)), (3, .ref 225), (2, .ref 196), (1, .ref 1), (0, .ref 0)] [] H2 (kc + c1 + c2) (ks + s1 + s2) r) : RP (L, xs) 2000 mr_law 824 [(4, .int (nI i)), (3, .ref 225), (2, .ref 196), (1, .ref 1), (0, .ref 0)] [] H kc ks r := by
  refine RP.blk 2 (pc' := 826) (lv' := [(4, .int (nI i)), (3, .ref 225), (2, .ref 196), (1, .ref 1), (0, .ref 0)]) (st' := [.ref 225, .ref 1]) (H' := H) (kc' := kc) (ks' := ks) rfl ?_
  refine RP.call (v := some (.int kk)) (st' := []) rfl rfl rfl rfl rfl rfl rfl hw ?_
  refine RP.blk 1 (pc' := 831) (lv' := [(5, .int kk), (4, .int (nI i)), (3, .ref 225), (2, .ref 196), (1, .ref 1), (0, .ref 0)]) (st' := []) (H' := H1) (kc' := kc + c1) (ks' := ks + s1) rfl ?_
  refine RP.blk 1 (pc' := 832) (lv' := [(5, .int kk), (4, .int (nI i)), (3, .ref 225), (2, .ref 196), (1, .ref 1), (0, .ref 0)]) (st' := [.ref 196]) (H' := H1) (kc' := kc + c1) (ks' := ks + s1) rfl ?_
  refine RP.call (v := some (.int v)) (st' := []) rfl rfl rfl rfl rfl rfl (args_v0 (a := 195) rfl rfl (by decide) rfl hmo (by decide)) hm ?_
  refine RP.blk 1 (pc' := 837) (lv' := [(6, .int v), (5, .int kk), (4, .int (nI i)), (3, .ref 225), (2, .ref 196), (1, .ref 1), (0, .ref 0)]) (st' := []) (H' := H2) (kc' := kc + c1 + c2) (ks' := ks + s1 + s2) rfl ?_
  exact k
set_option maxRecDepth 100000 in
set_option maxHeartbeats 1000000 in
theorem law_op11 {L i : Nat} {xs : Nat → Int32} {kc ks c1 s1 c2 s2 : Nat} {H H1 H2 : aH} {fs1 : List Value} {kk v : Int32} {r : tO × aH × Nat × Nat} (hL : L < 2 ^ 30) (h : i + 6 ≤ L) (hw : RC (L, xs) 1999 mr_168 [.ref 1, .int (bz (xs (i + 1))), .ref 225] H (.inl (some (.int kk))) H1 c1 s1) (hmo : H1[195]? = some (kO 12 fs1)) (hm : RC (L, xs) 1999 mr_279 [.ref 196, .int (bz (xs (i + 1)))] H1 (.inl (some (.int v))) H2 c2 s2)
    (k : RP (L, xs) 2000 mr_law 909 [(6, .int v), (5, .int kk), (4, .int (nI i)), (3, .ref 225), (2, .ref 196), (1, .ref 1), (0, .ref 0)] [] H2 (kc + c1 + c2) (ks + s1 + s2) r) : RP (L, xs) 2000 mr_law 868 [(4, .int (nI i)), (3, .ref 225), (2, .ref 196), (1, .ref 1), (0, .ref 0)] [] H kc ks r := by
  refine RP.blk 5 (pc' := 874) (lv' := [(4, .int (nI i)), (3, .ref 225), (2, .ref 196), (1, .ref 1), (0, .ref 0)]) (st' := [.int (nI i + 1), .ref 0, .ref 1]) (H' := H) (kc' := kc) (ks' := ks) rfl ?_
  rw [show nI i + 1 = nI (i + 1) from nI_add i 1]
  refine RP.sld rfl (by omega) (by omega) ?_
  refine RP.bool rfl rfl rfl rfl ?_
  refine RP.blk 1 (pc' := 884) (lv' := [(4, .int (nI i)), (3, .ref 225), (2, .ref 196), (1, .ref 1), (0, .ref 0)]) (st' := [.ref 225, .int (bz (xs (i + 1))), .ref 1]) (H' := H) (kc' := kc) (ks' := ks) rfl ?_
  refine RP.call (v := some (.int kk)) (st' := []) rfl rfl rfl rfl rfl rfl rfl hw ?_
  refine RP.blk 1 (pc' := 889) (lv' := [(5, .int kk), (4, .int (nI i)), (3, .ref 225), (2, .ref 196), (1, .ref 1), (0, .ref 0)]) (st' := []) (H' := H1) (kc' := kc + c1) (ks' := ks + s1) rfl ?_
  refine RP.blk 5 (pc' := 895) (lv' := [(5, .int kk), (4, .int (nI i)), (3, .ref 225), (2, .ref 196), (1, .ref 1), (0, .ref 0)]) (st' := [.int (nI i + 1), .ref 0, .ref 196]) (H' := H1) (kc' := kc + c1) (ks' := ks + s1) rfl ?_
  rw [show nI i + 1 = nI (i + 1) from nI_add i 1]
  refine RP.sld rfl (by omega) (by omega) ?_
  refine RP.bool rfl rfl rfl rfl ?_
  refine RP.call (v := some (.int v)) (st' := []) rfl rfl rfl rfl rfl rfl (args_v1 (a := 195) rfl rfl (by decide) rfl hmo (by decide)) hm ?_
  refine RP.blk 1 (pc' := 909) (lv' := [(6, .int v), (5, .int kk), (4, .int (nI i)), (3, .ref 225), (2, .ref 196), (1, .ref 1), (0, .ref 0)]) (st' := []) (H' := H2) (kc' := kc + c1 + c2) (ks' := ks + s1 + s2) rfl ?_
  exact k
set_option maxRecDepth 100000 in
set_option maxHeartbeats 1000000 in
theorem law_op12 {L i : Nat} {xs : Nat → Int32} {kc ks c1 s1 c2 s2 : Nat} {H H1 H2 : aH} {fs1 : List Value} {kk v : Int32} {r : tO × aH × Nat × Nat} (hL : L < 2 ^ 30) (h : i + 6 ≤ L) (hw : RC (L, xs) 1999 mr_172 [.ref 1, .ref 225] H (.inl (some (.int kk))) H1 c1 s1) (hmo : H1[195]? = some (kO 12 fs1)) (hm : RC (L, xs) 1999 mr_280 [.ref 196] H1 (.inl (some (.int v))) H2 c2 s2)
    (k : RP (L, xs) 2000 mr_law 953 [(6, .int v), (5, .int kk), (4, .int (nI i)), (3, .ref 225), (2, .ref 196), (1, .ref 1), (0, .ref 0)] [] H2 (kc + c1 + c2) (ks + s1 + s2) r) : RP (L, xs) 2000 mr_law 940 [(4, .int (nI i)), (3, .ref 225), (2, .ref 196), (1, .ref 1), (0, .ref 0)] [] H kc ks r := by
  refine RP.blk 2 (pc' := 942) (lv' := [(4, .int (nI i)), (3, .ref 225), (2, .ref 196), (1, .ref 1), (0, .ref 0)]) (st' := [.ref 225, .ref 1]) (H' := H) (kc' := kc) (ks' := ks) rfl ?_
  refine RP.call (v := some (.int kk)) (st' := []) rfl rfl rfl rfl rfl rfl rfl hw ?_
  refine RP.blk 1 (pc' := 947) (lv' := [(5, .int kk), (4, .int (nI i)), (3, .ref 225), (2, .ref 196), (1, .ref 1), (0, .ref 0)]) (st' := []) (H' := H1) (kc' := kc + c1) (ks' := ks + s1) rfl ?_
  refine RP.blk 1 (pc' := 948) (lv' := [(5, .int kk), (4, .int (nI i)), (3, .ref 225), (2, .ref 196), (1, .ref 1), (0, .ref 0)]) (st' := [.ref 196]) (H' := H1) (kc' := kc + c1) (ks' := ks + s1) rfl ?_
  refine RP.call (v := some (.int v)) (st' := []) rfl rfl rfl rfl rfl rfl (args_v0 (a := 195) rfl rfl (by decide) rfl hmo (by decide)) hm ?_
  refine RP.blk 1 (pc' := 953) (lv' := [(6, .int v), (5, .int kk), (4, .int (nI i)), (3, .ref 225), (2, .ref 196), (1, .ref 1), (0, .ref 0)]) (st' := []) (H' := H2) (kc' := kc + c1 + c2) (ks' := ks + s1 + s2) rfl ?_
  exact k
set_option maxRecDepth 100000 in
set_option maxHeartbeats 1000000 in
theorem law_op13 {L i : Nat} {xs : Nat → Int32} {kc ks c1 s1 c2 s2 : Nat} {H H1 H2 : aH} {fs1 : List Value} {kk v : Int32} {r : tO × aH × Nat × Nat} (hL : L < 2 ^ 30) (h : i + 6 ≤ L) (hw : RC (L, xs) 1999 mr_175 [.ref 1, .int (bz (xs (i + 1))), .int (xs (i + 2)), .int (xs (i + 3)), .ref 225] H (.inl (some (.int kk))) H1 c1 s1) (hmo : H1[195]? = some (kO 12 fs1)) (hm : RC (L, xs) 1999 mr_267 [.ref 196, .int (bz (xs (i + 1))), .int (xs (i + 2)), .int (xs (i + 3))] H1 (.inl (some (.int v))) H2 c2 s2)
    (k : RP (L, xs) 2000 mr_law 1049 [(6, .int v), (5, .int kk), (4, .int (nI i)), (3, .ref 225), (2, .ref 196), (1, .ref 1), (0, .ref 0)] [] H2 (kc + c1 + c2) (ks + s1 + s2) r) : RP (L, xs) 2000 mr_law 984 [(4, .int (nI i)), (3, .ref 225), (2, .ref 196), (1, .ref 1), (0, .ref 0)] [] H kc ks r := by
  refine RP.blk 5 (pc' := 990) (lv' := [(4, .int (nI i)), (3, .ref 225), (2, .ref 196), (1, .ref 1), (0, .ref 0)]) (st' := [.int (nI i + 1), .ref 0, .ref 1]) (H' := H) (kc' := kc) (ks' := ks) rfl ?_
  rw [show nI i + 1 = nI (i + 1) from nI_add i 1]
  refine RP.sld rfl (by omega) (by omega) ?_
  refine RP.bool rfl rfl rfl rfl ?_
  refine RP.blk 4 (pc' := 1004) (lv' := [(4, .int (nI i)), (3, .ref 225), (2, .ref 196), (1, .ref 1), (0, .ref 0)]) (st' := [.int (nI i + 2), .ref 0, .int (bz (xs (i + 1))), .ref 1]) (H' := H) (kc' := kc) (ks' := ks) rfl ?_
  rw [show nI i + 2 = nI (i + 2) from nI_add i 2]
  refine RP.sld rfl (by omega) (by omega) ?_
  refine RP.blk 4 (pc' := 1010) (lv' := [(4, .int (nI i)), (3, .ref 225), (2, .ref 196), (1, .ref 1), (0, .ref 0)]) (st' := [.int (nI i + 3), .ref 0, .int (xs (i + 2)), .int (bz (xs (i + 1))), .ref 1]) (H' := H) (kc' := kc) (ks' := ks) rfl ?_
  rw [show nI i + 3 = nI (i + 3) from nI_add i 3]
  refine RP.sld rfl (by omega) (by omega) ?_
  refine RP.blk 1 (pc' := 1012) (lv' := [(4, .int (nI i)), (3, .ref 225), (2, .ref 196), (1, .ref 1), (0, .ref 0)]) (st' := [.ref 225, .int (xs (i + 3)), .int (xs (i + 2)), .int (bz (xs (i + 1))), .ref 1]) (H' := H) (kc' := kc) (ks' := ks) rfl ?_
  refine RP.call (v := some (.int kk)) (st' := []) rfl rfl rfl rfl rfl rfl rfl hw ?_
  refine RP.blk 1 (pc' := 1017) (lv' := [(5, .int kk), (4, .int (nI i)), (3, .ref 225), (2, .ref 196), (1, .ref 1), (0, .ref 0)]) (st' := []) (H' := H1) (kc' := kc + c1) (ks' := ks + s1) rfl ?_
  refine RP.blk 5 (pc' := 1023) (lv' := [(5, .int kk), (4, .int (nI i)), (3, .ref 225), (2, .ref 196), (1, .ref 1), (0, .ref 0)]) (st' := [.int (nI i + 1), .ref 0, .ref 196]) (H' := H1) (kc' := kc + c1) (ks' := ks + s1) rfl ?_
  rw [show nI i + 1 = nI (i + 1) from nI_add i 1]
  refine RP.sld rfl (by omega) (by omega) ?_
  refine RP.bool rfl rfl rfl rfl ?_
  refine RP.blk 4 (pc' := 1037) (lv' := [(5, .int kk), (4, .int (nI i)), (3, .ref 225), (2, .ref 196), (1, .ref 1), (0, .ref 0)]) (st' := [.int (nI i + 2), .ref 0, .int (bz (xs (i + 1))), .ref 196]) (H' := H1) (kc' := kc + c1) (ks' := ks + s1) rfl ?_
  rw [show nI i + 2 = nI (i + 2) from nI_add i 2]
  refine RP.sld rfl (by omega) (by omega) ?_
  refine RP.blk 4 (pc' := 1043) (lv' := [(5, .int kk), (4, .int (nI i)), (3, .ref 225), (2, .ref 196), (1, .ref 1), (0, .ref 0)]) (st' := [.int (nI i + 3), .ref 0, .int (xs (i + 2)), .int (bz (xs (i + 1))), .ref 196]) (H' := H1) (kc' := kc + c1) (ks' := ks + s1) rfl ?_
  rw [show nI i + 3 = nI (i + 3) from nI_add i 3]
  refine RP.sld rfl (by omega) (by omega) ?_
  refine RP.call (v := some (.int v)) (st' := []) rfl rfl rfl rfl rfl rfl (args_v3 (a := 195) rfl rfl (by decide) rfl hmo (by decide)) hm ?_
  refine RP.blk 1 (pc' := 1049) (lv' := [(6, .int v), (5, .int kk), (4, .int (nI i)), (3, .ref 225), (2, .ref 196), (1, .ref 1), (0, .ref 0)]) (st' := []) (H' := H2) (kc' := kc + c1 + c2) (ks' := ks + s1 + s2) rfl ?_
  exact k
set_option maxRecDepth 100000 in
set_option maxHeartbeats 1000000 in
theorem law_op14 {L i : Nat} {xs : Nat → Int32} {kc ks c1 s1 c2 s2 : Nat} {H H1 H2 : aH} {fs1 : List Value} {kk v : Int32} {r : tO × aH × Nat × Nat} (hL : L < 2 ^ 30) (h : i + 6 ≤ L) (hw : RC (L, xs) 1999 mr_177 [.ref 1, .ref 225] H (.inl (some (.int kk))) H1 c1 s1) (hmo : H1[195]? = some (kO 12 fs1)) (hm : RC (L, xs) 1999 mr_268 [.ref 196] H1 (.inl (some (.int v))) H2 c2 s2)
    (k : RP (L, xs) 2000 mr_law 1093 [(6, .int v), (5, .int kk), (4, .int (nI i)), (3, .ref 225), (2, .ref 196), (1, .ref 1), (0, .ref 0)] [] H2 (kc + c1 + c2) (ks + s1 + s2) r) : RP (L, xs) 2000 mr_law 1080 [(4, .int (nI i)), (3, .ref 225), (2, .ref 196), (1, .ref 1), (0, .ref 0)] [] H kc ks r := by
  refine RP.blk 2 (pc' := 1082) (lv' := [(4, .int (nI i)), (3, .ref 225), (2, .ref 196), (1, .ref 1), (0, .ref 0)]) (st' := [.ref 225, .ref 1]) (H' := H) (kc' := kc) (ks' := ks) rfl ?_
  refine RP.call (v := some (.int kk)) (st' := []) rfl rfl rfl rfl rfl rfl rfl hw ?_
  refine RP.blk 1 (pc' := 1087) (lv' := [(5, .int kk), (4, .int (nI i)), (3, .ref 225), (2, .ref 196), (1, .ref 1), (0, .ref 0)]) (st' := []) (H' := H1) (kc' := kc + c1) (ks' := ks + s1) rfl ?_
  refine RP.blk 1 (pc' := 1088) (lv' := [(5, .int kk), (4, .int (nI i)), (3, .ref 225), (2, .ref 196), (1, .ref 1), (0, .ref 0)]) (st' := [.ref 196]) (H' := H1) (kc' := kc + c1) (ks' := ks + s1) rfl ?_
  refine RP.call (v := some (.int v)) (st' := []) rfl rfl rfl rfl rfl rfl (args_v0 (a := 195) rfl rfl (by decide) rfl hmo (by decide)) hm ?_
  refine RP.blk 1 (pc' := 1093) (lv' := [(6, .int v), (5, .int kk), (4, .int (nI i)), (3, .ref 225), (2, .ref 196), (1, .ref 1), (0, .ref 0)]) (st' := []) (H' := H2) (kc' := kc + c1 + c2) (ks' := ks + s1 + s2) rfl ?_
  exact k
set_option maxRecDepth 100000 in
set_option maxHeartbeats 1000000 in
theorem law_op16 {L i : Nat} {xs : Nat → Int32} {kc ks c1 s1 c2 s2 : Nat} {H H1 H2 : aH} {fs1 : List Value} {kk v : Int32} {r : tO × aH × Nat × Nat} (hL : L < 2 ^ 30) (h : i + 6 ≤ L) (hw : RC (L, xs) 1999 mr_195 [.ref 1, .int (xs (i + 1)), .ref 225] H (.inl (some (.int kk))) H1 c1 s1) (hmo : H1[195]? = some (kO 12 fs1)) (hm : RC (L, xs) 1999 mr_300 [.ref 196, .int (xs (i + 1))] H1 (.inl (some (.int v))) H2 c2 s2)
    (k : RP (L, xs) 2000 mr_law 1204 [(6, .int v), (5, .int kk), (4, .int (nI i)), (3, .ref 225), (2, .ref 196), (1, .ref 1), (0, .ref 0)] [] H2 (kc + c1 + c2) (ks + s1 + s2) r) : RP (L, xs) 2000 mr_law 1179 [(4, .int (nI i)), (3, .ref 225), (2, .ref 196), (1, .ref 1), (0, .ref 0)] [] H kc ks r := by
  refine RP.blk 5 (pc' := 1185) (lv' := [(4, .int (nI i)), (3, .ref 225), (2, .ref 196), (1, .ref 1), (0, .ref 0)]) (st' := [.int (nI i + 1), .ref 0, .ref 1]) (H' := H) (kc' := kc) (ks' := ks) rfl ?_
  rw [show nI i + 1 = nI (i + 1) from nI_add i 1]
  refine RP.sld rfl (by omega) (by omega) ?_
  refine RP.blk 1 (pc' := 1187) (lv' := [(4, .int (nI i)), (3, .ref 225), (2, .ref 196), (1, .ref 1), (0, .ref 0)]) (st' := [.ref 225, .int (xs (i + 1)), .ref 1]) (H' := H) (kc' := kc) (ks' := ks) rfl ?_
  refine RP.call (v := some (.int kk)) (st' := []) rfl rfl rfl rfl rfl rfl rfl hw ?_
  refine RP.blk 1 (pc' := 1192) (lv' := [(5, .int kk), (4, .int (nI i)), (3, .ref 225), (2, .ref 196), (1, .ref 1), (0, .ref 0)]) (st' := []) (H' := H1) (kc' := kc + c1) (ks' := ks + s1) rfl ?_
  refine RP.blk 5 (pc' := 1198) (lv' := [(5, .int kk), (4, .int (nI i)), (3, .ref 225), (2, .ref 196), (1, .ref 1), (0, .ref 0)]) (st' := [.int (nI i + 1), .ref 0, .ref 196]) (H' := H1) (kc' := kc + c1) (ks' := ks + s1) rfl ?_
  rw [show nI i + 1 = nI (i + 1) from nI_add i 1]
  refine RP.sld rfl (by omega) (by omega) ?_
  refine RP.call (v := some (.int v)) (st' := []) rfl rfl rfl rfl rfl rfl (args_v1 (a := 195) rfl rfl (by decide) rfl hmo (by decide)) hm ?_
  refine RP.blk 1 (pc' := 1204) (lv' := [(6, .int v), (5, .int kk), (4, .int (nI i)), (3, .ref 225), (2, .ref 196), (1, .ref 1), (0, .ref 0)]) (st' := []) (H' := H2) (kc' := kc + c1 + c2) (ks' := ks + s1 + s2) rfl ?_
  exact k
set_option maxRecDepth 100000 in
set_option maxHeartbeats 1000000 in
theorem law_op17 {L i : Nat} {xs : Nat → Int32} {kc ks c1 s1 c2 s2 : Nat} {H H1 H2 : aH} {fs1 : List Value} {kk v : Int32} {r : tO × aH × Nat × Nat} (hL : L < 2 ^ 30) (h : i + 6 ≤ L) (hw : RC (L, xs) 1999 mr_199 [.ref 1, .int (xs (i + 1)), .ref 225] H (.inl (some (.int kk))) H1 c1 s1) (hmo : H1[195]? = some (kO 12 fs1)) (hm : RC (L, xs) 1999 mr_281 [.ref 196, .int (xs (i + 1))] H1 (.inl (some (.int v))) H2 c2 s2)
    (k : RP (L, xs) 2000 mr_law 1260 [(6, .int v), (5, .int kk), (4, .int (nI i)), (3, .ref 225), (2, .ref 196), (1, .ref 1), (0, .ref 0)] [] H2 (kc + c1 + c2) (ks + s1 + s2) r) : RP (L, xs) 2000 mr_law 1235 [(4, .int (nI i)), (3, .ref 225), (2, .ref 196), (1, .ref 1), (0, .ref 0)] [] H kc ks r := by
  refine RP.blk 5 (pc' := 1241) (lv' := [(4, .int (nI i)), (3, .ref 225), (2, .ref 196), (1, .ref 1), (0, .ref 0)]) (st' := [.int (nI i + 1), .ref 0, .ref 1]) (H' := H) (kc' := kc) (ks' := ks) rfl ?_
  rw [show nI i + 1 = nI (i + 1) from nI_add i 1]
  refine RP.sld rfl (by omega) (by omega) ?_
  refine RP.blk 1 (pc' := 1243) (lv' := [(4, .int (nI i)), (3, .ref 225), (2, .ref 196), (1, .ref 1), (0, .ref 0)]) (st' := [.ref 225, .int (xs (i + 1)), .ref 1]) (H' := H) (kc' := kc) (ks' := ks) rfl ?_
  refine RP.call (v := some (.int kk)) (st' := []) rfl rfl rfl rfl rfl rfl rfl hw ?_
  refine RP.blk 1 (pc' := 1248) (lv' := [(5, .int kk), (4, .int (nI i)), (3, .ref 225), (2, .ref 196), (1, .ref 1), (0, .ref 0)]) (st' := []) (H' := H1) (kc' := kc + c1) (ks' := ks + s1) rfl ?_
  refine RP.blk 5 (pc' := 1254) (lv' := [(5, .int kk), (4, .int (nI i)), (3, .ref 225), (2, .ref 196), (1, .ref 1), (0, .ref 0)]) (st' := [.int (nI i + 1), .ref 0, .ref 196]) (H' := H1) (kc' := kc + c1) (ks' := ks + s1) rfl ?_
  rw [show nI i + 1 = nI (i + 1) from nI_add i 1]
  refine RP.sld rfl (by omega) (by omega) ?_
  refine RP.call (v := some (.int v)) (st' := []) rfl rfl rfl rfl rfl rfl (args_v1 (a := 195) rfl rfl (by decide) rfl hmo (by decide)) hm ?_
  refine RP.blk 1 (pc' := 1260) (lv' := [(6, .int v), (5, .int kk), (4, .int (nI i)), (3, .ref 225), (2, .ref 196), (1, .ref 1), (0, .ref 0)]) (st' := []) (H' := H2) (kc' := kc + c1 + c2) (ks' := ks + s1 + s2) rfl ?_
  exact k
set_option maxRecDepth 100000 in
set_option maxHeartbeats 1000000 in
theorem law_op18 {L i : Nat} {xs : Nat → Int32} {kc ks c1 s1 c2 s2 : Nat} {H H1 H2 : aH} {fs1 : List Value} {kk v : Int32} {r : tO × aH × Nat × Nat} (hL : L < 2 ^ 30) (h : i + 6 ≤ L) (hw : RC (L, xs) 1999 mr_201 [.ref 1, .ref 225] H (.inl (some (.int kk))) H1 c1 s1) (hmo : H1[195]? = some (kO 12 fs1)) (hm : RC (L, xs) 1999 mr_303 [.ref 196] H1 (.inl (some (.int v))) H2 c2 s2)
    (k : RP (L, xs) 2000 mr_law 1304 [(6, .int v), (5, .int kk), (4, .int (nI i)), (3, .ref 225), (2, .ref 196), (1, .ref 1), (0, .ref 0)] [] H2 (kc + c1 + c2) (ks + s1 + s2) r) : RP (L, xs) 2000 mr_law 1291 [(4, .int (nI i)), (3, .ref 225), (2, .ref 196), (1, .ref 1), (0, .ref 0)] [] H kc ks r := by
  refine RP.blk 2 (pc' := 1293) (lv' := [(4, .int (nI i)), (3, .ref 225), (2, .ref 196), (1, .ref 1), (0, .ref 0)]) (st' := [.ref 225, .ref 1]) (H' := H) (kc' := kc) (ks' := ks) rfl ?_
  refine RP.call (v := some (.int kk)) (st' := []) rfl rfl rfl rfl rfl rfl rfl hw ?_
  refine RP.blk 1 (pc' := 1298) (lv' := [(5, .int kk), (4, .int (nI i)), (3, .ref 225), (2, .ref 196), (1, .ref 1), (0, .ref 0)]) (st' := []) (H' := H1) (kc' := kc + c1) (ks' := ks + s1) rfl ?_
  refine RP.blk 1 (pc' := 1299) (lv' := [(5, .int kk), (4, .int (nI i)), (3, .ref 225), (2, .ref 196), (1, .ref 1), (0, .ref 0)]) (st' := [.ref 196]) (H' := H1) (kc' := kc + c1) (ks' := ks + s1) rfl ?_
  refine RP.call (v := some (.int v)) (st' := []) rfl rfl rfl rfl rfl rfl (args_v0 (a := 195) rfl rfl (by decide) rfl hmo (by decide)) hm ?_
  refine RP.blk 1 (pc' := 1304) (lv' := [(6, .int v), (5, .int kk), (4, .int (nI i)), (3, .ref 225), (2, .ref 196), (1, .ref 1), (0, .ref 0)]) (st' := []) (H' := H2) (kc' := kc + c1 + c2) (ks' := ks + s1 + s2) rfl ?_
  exact k
set_option maxRecDepth 100000 in
set_option maxHeartbeats 1000000 in
theorem law_op19 {L i : Nat} {xs : Nat → Int32} {kc ks c1 s1 c2 s2 : Nat} {H H1 H2 : aH} {fs1 : List Value} {kk v : Int32} {r : tO × aH × Nat × Nat} (hL : L < 2 ^ 30) (h : i + 6 ≤ L) (hw : RC (L, xs) 1999 mr_214 [.ref 1, .int (xs (i + 1)), .int (bz (xs (i + 2))), .ref 225] H (.inl (some (.int kk))) H1 c1 s1) (hmo : H1[195]? = some (kO 12 fs1)) (hm : RC (L, xs) 1999 mr_304 [.ref 196, .int (xs (i + 1)), .int (bz (xs (i + 2)))] H1 (.inl (some (.int v))) H2 c2 s2)
    (k : RP (L, xs) 2000 mr_law 1388 [(6, .int v), (5, .int kk), (4, .int (nI i)), (3, .ref 225), (2, .ref 196), (1, .ref 1), (0, .ref 0)] [] H2 (kc + c1 + c2) (ks + s1 + s2) r) : RP (L, xs) 2000 mr_law 1335 [(4, .int (nI i)), (3, .ref 225), (2, .ref 196), (1, .ref 1), (0, .ref 0)] [] H kc ks r := by
  refine RP.blk 5 (pc' := 1341) (lv' := [(4, .int (nI i)), (3, .ref 225), (2, .ref 196), (1, .ref 1), (0, .ref 0)]) (st' := [.int (nI i + 1), .ref 0, .ref 1]) (H' := H) (kc' := kc) (ks' := ks) rfl ?_
  rw [show nI i + 1 = nI (i + 1) from nI_add i 1]
  refine RP.sld rfl (by omega) (by omega) ?_
  refine RP.blk 4 (pc' := 1347) (lv' := [(4, .int (nI i)), (3, .ref 225), (2, .ref 196), (1, .ref 1), (0, .ref 0)]) (st' := [.int (nI i + 2), .ref 0, .int (xs (i + 1)), .ref 1]) (H' := H) (kc' := kc) (ks' := ks) rfl ?_
  rw [show nI i + 2 = nI (i + 2) from nI_add i 2]
  refine RP.sld rfl (by omega) (by omega) ?_
  refine RP.bool rfl rfl rfl rfl ?_
  refine RP.blk 1 (pc' := 1357) (lv' := [(4, .int (nI i)), (3, .ref 225), (2, .ref 196), (1, .ref 1), (0, .ref 0)]) (st' := [.ref 225, .int (bz (xs (i + 2))), .int (xs (i + 1)), .ref 1]) (H' := H) (kc' := kc) (ks' := ks) rfl ?_
  refine RP.call (v := some (.int kk)) (st' := []) rfl rfl rfl rfl rfl rfl rfl hw ?_
  refine RP.blk 1 (pc' := 1362) (lv' := [(5, .int kk), (4, .int (nI i)), (3, .ref 225), (2, .ref 196), (1, .ref 1), (0, .ref 0)]) (st' := []) (H' := H1) (kc' := kc + c1) (ks' := ks + s1) rfl ?_
  refine RP.blk 5 (pc' := 1368) (lv' := [(5, .int kk), (4, .int (nI i)), (3, .ref 225), (2, .ref 196), (1, .ref 1), (0, .ref 0)]) (st' := [.int (nI i + 1), .ref 0, .ref 196]) (H' := H1) (kc' := kc + c1) (ks' := ks + s1) rfl ?_
  rw [show nI i + 1 = nI (i + 1) from nI_add i 1]
  refine RP.sld rfl (by omega) (by omega) ?_
  refine RP.blk 4 (pc' := 1374) (lv' := [(5, .int kk), (4, .int (nI i)), (3, .ref 225), (2, .ref 196), (1, .ref 1), (0, .ref 0)]) (st' := [.int (nI i + 2), .ref 0, .int (xs (i + 1)), .ref 196]) (H' := H1) (kc' := kc + c1) (ks' := ks + s1) rfl ?_
  rw [show nI i + 2 = nI (i + 2) from nI_add i 2]
  refine RP.sld rfl (by omega) (by omega) ?_
  refine RP.bool rfl rfl rfl rfl ?_
  refine RP.call (v := some (.int v)) (st' := []) rfl rfl rfl rfl rfl rfl (args_v2 (a := 195) rfl rfl (by decide) rfl hmo (by decide)) hm ?_
  refine RP.blk 1 (pc' := 1388) (lv' := [(6, .int v), (5, .int kk), (4, .int (nI i)), (3, .ref 225), (2, .ref 196), (1, .ref 1), (0, .ref 0)]) (st' := []) (H' := H2) (kc' := kc + c1 + c2) (ks' := ks + s1 + s2) rfl ?_
  exact k
set_option maxRecDepth 100000 in
set_option maxHeartbeats 1000000 in
theorem law_op20 {L i : Nat} {xs : Nat → Int32} {kc ks c1 s1 c2 s2 : Nat} {H H1 H2 : aH} {fs1 : List Value} {kk v : Int32} {r : tO × aH × Nat × Nat} (hL : L < 2 ^ 30) (h : i + 6 ≤ L) (hw : RC (L, xs) 1999 mr_224 [.ref 1, .int (xs (i + 1)), .ref 225] H (.inl (some (.int kk))) H1 c1 s1) (hmo : H1[195]? = some (kO 12 fs1)) (hm : RC (L, xs) 1999 mr_311 [.ref 196, .int (xs (i + 1))] H1 (.inl (some (.int v))) H2 c2 s2)
    (k : RP (L, xs) 2000 mr_law 1444 [(6, .int v), (5, .int kk), (4, .int (nI i)), (3, .ref 225), (2, .ref 196), (1, .ref 1), (0, .ref 0)] [] H2 (kc + c1 + c2) (ks + s1 + s2) r) : RP (L, xs) 2000 mr_law 1419 [(4, .int (nI i)), (3, .ref 225), (2, .ref 196), (1, .ref 1), (0, .ref 0)] [] H kc ks r := by
  refine RP.blk 5 (pc' := 1425) (lv' := [(4, .int (nI i)), (3, .ref 225), (2, .ref 196), (1, .ref 1), (0, .ref 0)]) (st' := [.int (nI i + 1), .ref 0, .ref 1]) (H' := H) (kc' := kc) (ks' := ks) rfl ?_
  rw [show nI i + 1 = nI (i + 1) from nI_add i 1]
  refine RP.sld rfl (by omega) (by omega) ?_
  refine RP.blk 1 (pc' := 1427) (lv' := [(4, .int (nI i)), (3, .ref 225), (2, .ref 196), (1, .ref 1), (0, .ref 0)]) (st' := [.ref 225, .int (xs (i + 1)), .ref 1]) (H' := H) (kc' := kc) (ks' := ks) rfl ?_
  refine RP.call (v := some (.int kk)) (st' := []) rfl rfl rfl rfl rfl rfl rfl hw ?_
  refine RP.blk 1 (pc' := 1432) (lv' := [(5, .int kk), (4, .int (nI i)), (3, .ref 225), (2, .ref 196), (1, .ref 1), (0, .ref 0)]) (st' := []) (H' := H1) (kc' := kc + c1) (ks' := ks + s1) rfl ?_
  refine RP.blk 5 (pc' := 1438) (lv' := [(5, .int kk), (4, .int (nI i)), (3, .ref 225), (2, .ref 196), (1, .ref 1), (0, .ref 0)]) (st' := [.int (nI i + 1), .ref 0, .ref 196]) (H' := H1) (kc' := kc + c1) (ks' := ks + s1) rfl ?_
  rw [show nI i + 1 = nI (i + 1) from nI_add i 1]
  refine RP.sld rfl (by omega) (by omega) ?_
  refine RP.call (v := some (.int v)) (st' := []) rfl rfl rfl rfl rfl rfl (args_v1 (a := 195) rfl rfl (by decide) rfl hmo (by decide)) hm ?_
  refine RP.blk 1 (pc' := 1444) (lv' := [(6, .int v), (5, .int kk), (4, .int (nI i)), (3, .ref 225), (2, .ref 196), (1, .ref 1), (0, .ref 0)]) (st' := []) (H' := H2) (kc' := kc + c1 + c2) (ks' := ks + s1 + s2) rfl ?_
  exact k
set_option maxRecDepth 100000 in
set_option maxHeartbeats 1000000 in
theorem law_op21 {L i : Nat} {xs : Nat → Int32} {kc ks c1 s1 c2 s2 : Nat} {H H1 H2 : aH} {fs1 : List Value} {kk v : Int32} {r : tO × aH × Nat × Nat} (hL : L < 2 ^ 30) (h : i + 6 ≤ L) (hw : RC (L, xs) 1999 mr_232 [.ref 1, .int (xs (i + 1)), .int (xs (i + 2)), .int (xs (i + 3)), .ref 225] H (.inl (some (.int kk))) H1 c1 s1) (hmo : H1[195]? = some (kO 12 fs1)) (hm : RC (L, xs) 1999 mr_317 [.ref 196, .int (xs (i + 1)), .int (xs (i + 2)), .int (xs (i + 3))] H1 (.inl (some (.int v))) H2 c2 s2)
    (k : RP (L, xs) 2000 mr_law 1524 [(6, .int v), (5, .int kk), (4, .int (nI i)), (3, .ref 225), (2, .ref 196), (1, .ref 1), (0, .ref 0)] [] H2 (kc + c1 + c2) (ks + s1 + s2) r) : RP (L, xs) 2000 mr_law 1475 [(4, .int (nI i)), (3, .ref 225), (2, .ref 196), (1, .ref 1), (0, .ref 0)] [] H kc ks r := by
  refine RP.blk 5 (pc' := 1481) (lv' := [(4, .int (nI i)), (3, .ref 225), (2, .ref 196), (1, .ref 1), (0, .ref 0)]) (st' := [.int (nI i + 1), .ref 0, .ref 1]) (H' := H) (kc' := kc) (ks' := ks) rfl ?_
  rw [show nI i + 1 = nI (i + 1) from nI_add i 1]
  refine RP.sld rfl (by omega) (by omega) ?_
  refine RP.blk 4 (pc' := 1487) (lv' := [(4, .int (nI i)), (3, .ref 225), (2, .ref 196), (1, .ref 1), (0, .ref 0)]) (st' := [.int (nI i + 2), .ref 0, .int (xs (i + 1)), .ref 1]) (H' := H) (kc' := kc) (ks' := ks) rfl ?_
  rw [show nI i + 2 = nI (i + 2) from nI_add i 2]
  refine RP.sld rfl (by omega) (by omega) ?_
  refine RP.blk 4 (pc' := 1493) (lv' := [(4, .int (nI i)), (3, .ref 225), (2, .ref 196), (1, .ref 1), (0, .ref 0)]) (st' := [.int (nI i + 3), .ref 0, .int (xs (i + 2)), .int (xs (i + 1)), .ref 1]) (H' := H) (kc' := kc) (ks' := ks) rfl ?_
  rw [show nI i + 3 = nI (i + 3) from nI_add i 3]
  refine RP.sld rfl (by omega) (by omega) ?_
  refine RP.blk 1 (pc' := 1495) (lv' := [(4, .int (nI i)), (3, .ref 225), (2, .ref 196), (1, .ref 1), (0, .ref 0)]) (st' := [.ref 225, .int (xs (i + 3)), .int (xs (i + 2)), .int (xs (i + 1)), .ref 1]) (H' := H) (kc' := kc) (ks' := ks) rfl ?_
  refine RP.call (v := some (.int kk)) (st' := []) rfl rfl rfl rfl rfl rfl rfl hw ?_
  refine RP.blk 1 (pc' := 1500) (lv' := [(5, .int kk), (4, .int (nI i)), (3, .ref 225), (2, .ref 196), (1, .ref 1), (0, .ref 0)]) (st' := []) (H' := H1) (kc' := kc + c1) (ks' := ks + s1) rfl ?_
  refine RP.blk 5 (pc' := 1506) (lv' := [(5, .int kk), (4, .int (nI i)), (3, .ref 225), (2, .ref 196), (1, .ref 1), (0, .ref 0)]) (st' := [.int (nI i + 1), .ref 0, .ref 196]) (H' := H1) (kc' := kc + c1) (ks' := ks + s1) rfl ?_
  rw [show nI i + 1 = nI (i + 1) from nI_add i 1]
  refine RP.sld rfl (by omega) (by omega) ?_
  refine RP.blk 4 (pc' := 1512) (lv' := [(5, .int kk), (4, .int (nI i)), (3, .ref 225), (2, .ref 196), (1, .ref 1), (0, .ref 0)]) (st' := [.int (nI i + 2), .ref 0, .int (xs (i + 1)), .ref 196]) (H' := H1) (kc' := kc + c1) (ks' := ks + s1) rfl ?_
  rw [show nI i + 2 = nI (i + 2) from nI_add i 2]
  refine RP.sld rfl (by omega) (by omega) ?_
  refine RP.blk 4 (pc' := 1518) (lv' := [(5, .int kk), (4, .int (nI i)), (3, .ref 225), (2, .ref 196), (1, .ref 1), (0, .ref 0)]) (st' := [.int (nI i + 3), .ref 0, .int (xs (i + 2)), .int (xs (i + 1)), .ref 196]) (H' := H1) (kc' := kc + c1) (ks' := ks + s1) rfl ?_
  rw [show nI i + 3 = nI (i + 3) from nI_add i 3]
  refine RP.sld rfl (by omega) (by omega) ?_
  refine RP.call (v := some (.int v)) (st' := []) rfl rfl rfl rfl rfl rfl (args_v3 (a := 195) rfl rfl (by decide) rfl hmo (by decide)) hm ?_
  refine RP.blk 1 (pc' := 1524) (lv' := [(6, .int v), (5, .int kk), (4, .int (nI i)), (3, .ref 225), (2, .ref 196), (1, .ref 1), (0, .ref 0)]) (st' := []) (H' := H2) (kc' := kc + c1 + c2) (ks' := ks + s1 + s2) rfl ?_
  exact k
set_option maxRecDepth 100000 in
set_option maxHeartbeats 1000000 in
theorem law_op22 {L i : Nat} {xs : Nat → Int32} {kc ks c1 s1 c2 s2 : Nat} {H H1 H2 : aH} {fs1 : List Value} {kk v : Int32} {r : tO × aH × Nat × Nat} (hL : L < 2 ^ 30) (h : i + 6 ≤ L) (hw : RC (L, xs) 1999 mr_235 [.ref 1, .ref 225] H (.inl (some (.int kk))) H1 c1 s1) (hmo : H1[195]? = some (kO 12 fs1)) (hm : RC (L, xs) 1999 mr_321 [.ref 196] H1 (.inl (some (.int v))) H2 c2 s2)
    (k : RP (L, xs) 2000 mr_law 1568 [(6, .int v), (5, .int kk), (4, .int (nI i)), (3, .ref 225), (2, .ref 196), (1, .ref 1), (0, .ref 0)] [] H2 (kc + c1 + c2) (ks + s1 + s2) r) : RP (L, xs) 2000 mr_law 1555 [(4, .int (nI i)), (3, .ref 225), (2, .ref 196), (1, .ref 1), (0, .ref 0)] [] H kc ks r := by
  refine RP.blk 2 (pc' := 1557) (lv' := [(4, .int (nI i)), (3, .ref 225), (2, .ref 196), (1, .ref 1), (0, .ref 0)]) (st' := [.ref 225, .ref 1]) (H' := H) (kc' := kc) (ks' := ks) rfl ?_
  refine RP.call (v := some (.int kk)) (st' := []) rfl rfl rfl rfl rfl rfl rfl hw ?_
  refine RP.blk 1 (pc' := 1562) (lv' := [(5, .int kk), (4, .int (nI i)), (3, .ref 225), (2, .ref 196), (1, .ref 1), (0, .ref 0)]) (st' := []) (H' := H1) (kc' := kc + c1) (ks' := ks + s1) rfl ?_
  refine RP.blk 1 (pc' := 1563) (lv' := [(5, .int kk), (4, .int (nI i)), (3, .ref 225), (2, .ref 196), (1, .ref 1), (0, .ref 0)]) (st' := [.ref 196]) (H' := H1) (kc' := kc + c1) (ks' := ks + s1) rfl ?_
  refine RP.call (v := some (.int v)) (st' := []) rfl rfl rfl rfl rfl rfl (args_v0 (a := 195) rfl rfl (by decide) rfl hmo (by decide)) hm ?_
  refine RP.blk 1 (pc' := 1568) (lv' := [(6, .int v), (5, .int kk), (4, .int (nI i)), (3, .ref 225), (2, .ref 196), (1, .ref 1), (0, .ref 0)]) (st' := []) (H' := H2) (kc' := kc + c1 + c2) (ks' := ks + s1 + s2) rfl ?_
  exact k
set_option maxRecDepth 100000 in
set_option maxHeartbeats 1000000 in
theorem law_op23 {L i : Nat} {xs : Nat → Int32} {kc ks c1 s1 c2 s2 : Nat} {H H1 H2 : aH} {fs1 : List Value} {kk v : Int32} {r : tO × aH × Nat × Nat} (hL : L < 2 ^ 30) (h : i + 6 ≤ L) (hw : RC (L, xs) 1999 mr_237 [.ref 1, .int (xs (i + 1)), .int (xs (i + 2)), .ref 225] H (.inl (some (.int kk))) H1 c1 s1) (hmo : H1[195]? = some (kO 12 fs1)) (hm : RC (L, xs) 1999 mr_322 [.ref 196, .int (xs (i + 1)), .int (xs (i + 2))] H1 (.inl (some (.int v))) H2 c2 s2)
    (k : RP (L, xs) 2000 mr_law 1636 [(6, .int v), (5, .int kk), (4, .int (nI i)), (3, .ref 225), (2, .ref 196), (1, .ref 1), (0, .ref 0)] [] H2 (kc + c1 + c2) (ks + s1 + s2) r) : RP (L, xs) 2000 mr_law 1599 [(4, .int (nI i)), (3, .ref 225), (2, .ref 196), (1, .ref 1), (0, .ref 0)] [] H kc ks r := by
  refine RP.blk 5 (pc' := 1605) (lv' := [(4, .int (nI i)), (3, .ref 225), (2, .ref 196), (1, .ref 1), (0, .ref 0)]) (st' := [.int (nI i + 1), .ref 0, .ref 1]) (H' := H) (kc' := kc) (ks' := ks) rfl ?_
  rw [show nI i + 1 = nI (i + 1) from nI_add i 1]
  refine RP.sld rfl (by omega) (by omega) ?_
  refine RP.blk 4 (pc' := 1611) (lv' := [(4, .int (nI i)), (3, .ref 225), (2, .ref 196), (1, .ref 1), (0, .ref 0)]) (st' := [.int (nI i + 2), .ref 0, .int (xs (i + 1)), .ref 1]) (H' := H) (kc' := kc) (ks' := ks) rfl ?_
  rw [show nI i + 2 = nI (i + 2) from nI_add i 2]
  refine RP.sld rfl (by omega) (by omega) ?_
  refine RP.blk 1 (pc' := 1613) (lv' := [(4, .int (nI i)), (3, .ref 225), (2, .ref 196), (1, .ref 1), (0, .ref 0)]) (st' := [.ref 225, .int (xs (i + 2)), .int (xs (i + 1)), .ref 1]) (H' := H) (kc' := kc) (ks' := ks) rfl ?_
  refine RP.call (v := some (.int kk)) (st' := []) rfl rfl rfl rfl rfl rfl rfl hw ?_
  refine RP.blk 1 (pc' := 1618) (lv' := [(5, .int kk), (4, .int (nI i)), (3, .ref 225), (2, .ref 196), (1, .ref 1), (0, .ref 0)]) (st' := []) (H' := H1) (kc' := kc + c1) (ks' := ks + s1) rfl ?_
  refine RP.blk 5 (pc' := 1624) (lv' := [(5, .int kk), (4, .int (nI i)), (3, .ref 225), (2, .ref 196), (1, .ref 1), (0, .ref 0)]) (st' := [.int (nI i + 1), .ref 0, .ref 196]) (H' := H1) (kc' := kc + c1) (ks' := ks + s1) rfl ?_
  rw [show nI i + 1 = nI (i + 1) from nI_add i 1]
  refine RP.sld rfl (by omega) (by omega) ?_
  refine RP.blk 4 (pc' := 1630) (lv' := [(5, .int kk), (4, .int (nI i)), (3, .ref 225), (2, .ref 196), (1, .ref 1), (0, .ref 0)]) (st' := [.int (nI i + 2), .ref 0, .int (xs (i + 1)), .ref 196]) (H' := H1) (kc' := kc + c1) (ks' := ks + s1) rfl ?_
  rw [show nI i + 2 = nI (i + 2) from nI_add i 2]
  refine RP.sld rfl (by omega) (by omega) ?_
  refine RP.call (v := some (.int v)) (st' := []) rfl rfl rfl rfl rfl rfl (args_v2 (a := 195) rfl rfl (by decide) rfl hmo (by decide)) hm ?_
  refine RP.blk 1 (pc' := 1636) (lv' := [(6, .int v), (5, .int kk), (4, .int (nI i)), (3, .ref 225), (2, .ref 196), (1, .ref 1), (0, .ref 0)]) (st' := []) (H' := H2) (kc' := kc + c1 + c2) (ks' := ks + s1 + s2) rfl ?_
  exact k
set_option maxRecDepth 100000 in
set_option maxHeartbeats 1000000 in
theorem law_op24 {L i : Nat} {xs : Nat → Int32} {kc ks c1 s1 c2 s2 : Nat} {H H1 H2 : aH} {fs1 : List Value} {kk v : Int32} {r : tO × aH × Nat × Nat} (hL : L < 2 ^ 30) (h : i + 6 ≤ L) (hw : RC (L, xs) 1999 mr_246 [.ref 1, .int (xs (i + 1)), .int (xs (i + 2)), .int (xs (i + 3)), .ref 225] H (.inl (some (.int kk))) H1 c1 s1) (hmo : H1[195]? = some (kO 12 fs1)) (hm : RC (L, xs) 1999 mr_326 [.ref 196, .int (xs (i + 1)), .int (xs (i + 2)), .int (xs (i + 3))] H1 (.inl (some (.int v))) H2 c2 s2)
    (k : RP (L, xs) 2000 mr_law 1716 [(6, .int v), (5, .int kk), (4, .int (nI i)), (3, .ref 225), (2, .ref 196), (1, .ref 1), (0, .ref 0)] [] H2 (kc + c1 + c2) (ks + s1 + s2) r) : RP (L, xs) 2000 mr_law 1667 [(4, .int (nI i)), (3, .ref 225), (2, .ref 196), (1, .ref 1), (0, .ref 0)] [] H kc ks r := by
  refine RP.blk 5 (pc' := 1673) (lv' := [(4, .int (nI i)), (3, .ref 225), (2, .ref 196), (1, .ref 1), (0, .ref 0)]) (st' := [.int (nI i + 1), .ref 0, .ref 1]) (H' := H) (kc' := kc) (ks' := ks) rfl ?_
  rw [show nI i + 1 = nI (i + 1) from nI_add i 1]
  refine RP.sld rfl (by omega) (by omega) ?_
  refine RP.blk 4 (pc' := 1679) (lv' := [(4, .int (nI i)), (3, .ref 225), (2, .ref 196), (1, .ref 1), (0, .ref 0)]) (st' := [.int (nI i + 2), .ref 0, .int (xs (i + 1)), .ref 1]) (H' := H) (kc' := kc) (ks' := ks) rfl ?_
  rw [show nI i + 2 = nI (i + 2) from nI_add i 2]
  refine RP.sld rfl (by omega) (by omega) ?_
  refine RP.blk 4 (pc' := 1685) (lv' := [(4, .int (nI i)), (3, .ref 225), (2, .ref 196), (1, .ref 1), (0, .ref 0)]) (st' := [.int (nI i + 3), .ref 0, .int (xs (i + 2)), .int (xs (i + 1)), .ref 1]) (H' := H) (kc' := kc) (ks' := ks) rfl ?_
  rw [show nI i + 3 = nI (i + 3) from nI_add i 3]
  refine RP.sld rfl (by omega) (by omega) ?_
  refine RP.blk 1 (pc' := 1687) (lv' := [(4, .int (nI i)), (3, .ref 225), (2, .ref 196), (1, .ref 1), (0, .ref 0)]) (st' := [.ref 225, .int (xs (i + 3)), .int (xs (i + 2)), .int (xs (i + 1)), .ref 1]) (H' := H) (kc' := kc) (ks' := ks) rfl ?_
  refine RP.call (v := some (.int kk)) (st' := []) rfl rfl rfl rfl rfl rfl rfl hw ?_
  refine RP.blk 1 (pc' := 1692) (lv' := [(5, .int kk), (4, .int (nI i)), (3, .ref 225), (2, .ref 196), (1, .ref 1), (0, .ref 0)]) (st' := []) (H' := H1) (kc' := kc + c1) (ks' := ks + s1) rfl ?_
  refine RP.blk 5 (pc' := 1698) (lv' := [(5, .int kk), (4, .int (nI i)), (3, .ref 225), (2, .ref 196), (1, .ref 1), (0, .ref 0)]) (st' := [.int (nI i + 1), .ref 0, .ref 196]) (H' := H1) (kc' := kc + c1) (ks' := ks + s1) rfl ?_
  rw [show nI i + 1 = nI (i + 1) from nI_add i 1]
  refine RP.sld rfl (by omega) (by omega) ?_
  refine RP.blk 4 (pc' := 1704) (lv' := [(5, .int kk), (4, .int (nI i)), (3, .ref 225), (2, .ref 196), (1, .ref 1), (0, .ref 0)]) (st' := [.int (nI i + 2), .ref 0, .int (xs (i + 1)), .ref 196]) (H' := H1) (kc' := kc + c1) (ks' := ks + s1) rfl ?_
  rw [show nI i + 2 = nI (i + 2) from nI_add i 2]
  refine RP.sld rfl (by omega) (by omega) ?_
  refine RP.blk 4 (pc' := 1710) (lv' := [(5, .int kk), (4, .int (nI i)), (3, .ref 225), (2, .ref 196), (1, .ref 1), (0, .ref 0)]) (st' := [.int (nI i + 3), .ref 0, .int (xs (i + 2)), .int (xs (i + 1)), .ref 196]) (H' := H1) (kc' := kc + c1) (ks' := ks + s1) rfl ?_
  rw [show nI i + 3 = nI (i + 3) from nI_add i 3]
  refine RP.sld rfl (by omega) (by omega) ?_
  refine RP.call (v := some (.int v)) (st' := []) rfl rfl rfl rfl rfl rfl (args_v3 (a := 195) rfl rfl (by decide) rfl hmo (by decide)) hm ?_
  refine RP.blk 1 (pc' := 1716) (lv' := [(6, .int v), (5, .int kk), (4, .int (nI i)), (3, .ref 225), (2, .ref 196), (1, .ref 1), (0, .ref 0)]) (st' := []) (H' := H2) (kc' := kc + c1 + c2) (ks' := ks + s1 + s2) rfl ?_
  exact k
set_option maxRecDepth 100000 in
set_option maxHeartbeats 1000000 in
theorem law_op25 {L i : Nat} {xs : Nat → Int32} {kc ks c1 s1 c2 s2 : Nat} {H H1 H2 : aH} {fs1 : List Value} {kk v : Int32} {r : tO × aH × Nat × Nat} (hL : L < 2 ^ 30) (h : i + 6 ≤ L) (hw : RC (L, xs) 1999 mr_249 [.ref 1, .int (xs (i + 1)), .int (xs (i + 2)), .ref 225] H (.inl (some (.int kk))) H1 c1 s1) (hmo : H1[195]? = some (kO 12 fs1)) (hm : RC (L, xs) 1999 mr_328 [.ref 196, .int (xs (i + 1)), .int (xs (i + 2))] H1 (.inl (some (.int v))) H2 c2 s2)
    (k : RP (L, xs) 2000 mr_law 1784 [(6, .int v), (5, .int kk), (4, .int (nI i)), (3, .ref 225), (2, .ref 196), (1, .ref 1), (0, .ref 0)] [] H2 (kc + c1 + c2) (ks + s1 + s2) r) : RP (L, xs) 2000 mr_law 1747 [(4, .int (nI i)), (3, .ref 225), (2, .ref 196), (1, .ref 1), (0, .ref 0)] [] H kc ks r := by
  refine RP.blk 5 (pc' := 1753) (lv' := [(4, .int (nI i)), (3, .ref 225), (2, .ref 196), (1, .ref 1), (0, .ref 0)]) (st' := [.int (nI i + 1), .ref 0, .ref 1]) (H' := H) (kc' := kc) (ks' := ks) rfl ?_
  rw [show nI i + 1 = nI (i + 1) from nI_add i 1]
  refine RP.sld rfl (by omega) (by omega) ?_
  refine RP.blk 4 (pc' := 1759) (lv' := [(4, .int (nI i)), (3, .ref 225), (2, .ref 196), (1, .ref 1), (0, .ref 0)]) (st' := [.int (nI i + 2), .ref 0, .int (xs (i + 1)), .ref 1]) (H' := H) (kc' := kc) (ks' := ks) rfl ?_
  rw [show nI i + 2 = nI (i + 2) from nI_add i 2]
  refine RP.sld rfl (by omega) (by omega) ?_
  refine RP.blk 1 (pc' := 1761) (lv' := [(4, .int (nI i)), (3, .ref 225), (2, .ref 196), (1, .ref 1), (0, .ref 0)]) (st' := [.ref 225, .int (xs (i + 2)), .int (xs (i + 1)), .ref 1]) (H' := H) (kc' := kc) (ks' := ks) rfl ?_
  refine RP.call (v := some (.int kk)) (st' := []) rfl rfl rfl rfl rfl rfl rfl hw ?_
  refine RP.blk 1 (pc' := 1766) (lv' := [(5, .int kk), (4, .int (nI i)), (3, .ref 225), (2, .ref 196), (1, .ref 1), (0, .ref 0)]) (st' := []) (H' := H1) (kc' := kc + c1) (ks' := ks + s1) rfl ?_
  refine RP.blk 5 (pc' := 1772) (lv' := [(5, .int kk), (4, .int (nI i)), (3, .ref 225), (2, .ref 196), (1, .ref 1), (0, .ref 0)]) (st' := [.int (nI i + 1), .ref 0, .ref 196]) (H' := H1) (kc' := kc + c1) (ks' := ks + s1) rfl ?_
  rw [show nI i + 1 = nI (i + 1) from nI_add i 1]
  refine RP.sld rfl (by omega) (by omega) ?_
  refine RP.blk 4 (pc' := 1778) (lv' := [(5, .int kk), (4, .int (nI i)), (3, .ref 225), (2, .ref 196), (1, .ref 1), (0, .ref 0)]) (st' := [.int (nI i + 2), .ref 0, .int (xs (i + 1)), .ref 196]) (H' := H1) (kc' := kc + c1) (ks' := ks + s1) rfl ?_
  rw [show nI i + 2 = nI (i + 2) from nI_add i 2]
  refine RP.sld rfl (by omega) (by omega) ?_
  refine RP.call (v := some (.int v)) (st' := []) rfl rfl rfl rfl rfl rfl (args_v2 (a := 195) rfl rfl (by decide) rfl hmo (by decide)) hm ?_
  refine RP.blk 1 (pc' := 1784) (lv' := [(6, .int v), (5, .int kk), (4, .int (nI i)), (3, .ref 225), (2, .ref 196), (1, .ref 1), (0, .ref 0)]) (st' := []) (H' := H2) (kc' := kc + c1 + c2) (ks' := ks + s1 + s2) rfl ?_
  exact k
set_option maxRecDepth 100000 in
set_option maxHeartbeats 1000000 in
theorem law_op26 {L i : Nat} {xs : Nat → Int32} {kc ks c1 s1 c2 s2 : Nat} {H H1 H2 : aH} {fs1 : List Value} {kk v : Int32} {r : tO × aH × Nat × Nat} (hL : L < 2 ^ 30) (h : i + 6 ≤ L) (hw : RC (L, xs) 1999 mr_252 [.ref 1, .int (xs (i + 1)), .int (xs (i + 2)), .ref 225] H (.inl (some (.int kk))) H1 c1 s1) (hmo : H1[195]? = some (kO 12 fs1)) (hm : RC (L, xs) 1999 mr_329 [.ref 196, .int (xs (i + 1)), .int (xs (i + 2))] H1 (.inl (some (.int v))) H2 c2 s2)
    (k : RP (L, xs) 2000 mr_law 1852 [(6, .int v), (5, .int kk), (4, .int (nI i)), (3, .ref 225), (2, .ref 196), (1, .ref 1), (0, .ref 0)] [] H2 (kc + c1 + c2) (ks + s1 + s2) r) : RP (L, xs) 2000 mr_law 1815 [(4, .int (nI i)), (3, .ref 225), (2, .ref 196), (1, .ref 1), (0, .ref 0)] [] H kc ks r := by
  refine RP.blk 5 (pc' := 1821) (lv' := [(4, .int (nI i)), (3, .ref 225), (2, .ref 196), (1, .ref 1), (0, .ref 0)]) (st' := [.int (nI i + 1), .ref 0, .ref 1]) (H' := H) (kc' := kc) (ks' := ks) rfl ?_
  rw [show nI i + 1 = nI (i + 1) from nI_add i 1]
  refine RP.sld rfl (by omega) (by omega) ?_
  refine RP.blk 4 (pc' := 1827) (lv' := [(4, .int (nI i)), (3, .ref 225), (2, .ref 196), (1, .ref 1), (0, .ref 0)]) (st' := [.int (nI i + 2), .ref 0, .int (xs (i + 1)), .ref 1]) (H' := H) (kc' := kc) (ks' := ks) rfl ?_
  rw [show nI i + 2 = nI (i + 2) from nI_add i 2]
  refine RP.sld rfl (by omega) (by omega) ?_
  refine RP.blk 1 (pc' := 1829) (lv' := [(4, .int (nI i)), (3, .ref 225), (2, .ref 196), (1, .ref 1), (0, .ref 0)]) (st' := [.ref 225, .int (xs (i + 2)), .int (xs (i + 1)), .ref 1]) (H' := H) (kc' := kc) (ks' := ks) rfl ?_
  refine RP.call (v := some (.int kk)) (st' := []) rfl rfl rfl rfl rfl rfl rfl hw ?_
  refine RP.blk 1 (pc' := 1834) (lv' := [(5, .int kk), (4, .int (nI i)), (3, .ref 225), (2, .ref 196), (1, .ref 1), (0, .ref 0)]) (st' := []) (H' := H1) (kc' := kc + c1) (ks' := ks + s1) rfl ?_
  refine RP.blk 5 (pc' := 1840) (lv' := [(5, .int kk), (4, .int (nI i)), (3, .ref 225), (2, .ref 196), (1, .ref 1), (0, .ref 0)]) (st' := [.int (nI i + 1), .ref 0, .ref 196]) (H' := H1) (kc' := kc + c1) (ks' := ks + s1) rfl ?_
  rw [show nI i + 1 = nI (i + 1) from nI_add i 1]
  refine RP.sld rfl (by omega) (by omega) ?_
  refine RP.blk 4 (pc' := 1846) (lv' := [(5, .int kk), (4, .int (nI i)), (3, .ref 225), (2, .ref 196), (1, .ref 1), (0, .ref 0)]) (st' := [.int (nI i + 2), .ref 0, .int (xs (i + 1)), .ref 196]) (H' := H1) (kc' := kc + c1) (ks' := ks + s1) rfl ?_
  rw [show nI i + 2 = nI (i + 2) from nI_add i 2]
  refine RP.sld rfl (by omega) (by omega) ?_
  refine RP.call (v := some (.int v)) (st' := []) rfl rfl rfl rfl rfl rfl (args_v2 (a := 195) rfl rfl (by decide) rfl hmo (by decide)) hm ?_
  refine RP.blk 1 (pc' := 1852) (lv' := [(6, .int v), (5, .int kk), (4, .int (nI i)), (3, .ref 225), (2, .ref 196), (1, .ref 1), (0, .ref 0)]) (st' := []) (H' := H2) (kc' := kc + c1 + c2) (ks' := ks + s1 + s2) rfl ?_
  exact k
set_option maxRecDepth 100000 in
set_option maxHeartbeats 1000000 in
theorem law_op27 {L i : Nat} {xs : Nat → Int32} {kc ks c1 s1 c2 s2 : Nat} {H H1 H2 : aH} {fs1 : List Value} {kk v : Int32} {r : tO × aH × Nat × Nat} (hL : L < 2 ^ 30) (h : i + 6 ≤ L) (hw : RC (L, xs) 1999 mr_256 [.ref 1, .int (xs (i + 1)), .int (xs (i + 2)), .ref 225] H (.inl (some (.int kk))) H1 c1 s1) (hmo : H1[195]? = some (kO 12 fs1)) (hm : RC (L, xs) 1999 mr_330 [.ref 196, .int (xs (i + 1)), .int (xs (i + 2))] H1 (.inl (some (.int v))) H2 c2 s2)
    (k : RP (L, xs) 2000 mr_law 1920 [(6, .int v), (5, .int kk), (4, .int (nI i)), (3, .ref 225), (2, .ref 196), (1, .ref 1), (0, .ref 0)] [] H2 (kc + c1 + c2) (ks + s1 + s2) r) : RP (L, xs) 2000 mr_law 1883 [(4, .int (nI i)), (3, .ref 225), (2, .ref 196), (1, .ref 1), (0, .ref 0)] [] H kc ks r := by
  refine RP.blk 5 (pc' := 1889) (lv' := [(4, .int (nI i)), (3, .ref 225), (2, .ref 196), (1, .ref 1), (0, .ref 0)]) (st' := [.int (nI i + 1), .ref 0, .ref 1]) (H' := H) (kc' := kc) (ks' := ks) rfl ?_
  rw [show nI i + 1 = nI (i + 1) from nI_add i 1]
  refine RP.sld rfl (by omega) (by omega) ?_
  refine RP.blk 4 (pc' := 1895) (lv' := [(4, .int (nI i)), (3, .ref 225), (2, .ref 196), (1, .ref 1), (0, .ref 0)]) (st' := [.int (nI i + 2), .ref 0, .int (xs (i + 1)), .ref 1]) (H' := H) (kc' := kc) (ks' := ks) rfl ?_
  rw [show nI i + 2 = nI (i + 2) from nI_add i 2]
  refine RP.sld rfl (by omega) (by omega) ?_
  refine RP.blk 1 (pc' := 1897) (lv' := [(4, .int (nI i)), (3, .ref 225), (2, .ref 196), (1, .ref 1), (0, .ref 0)]) (st' := [.ref 225, .int (xs (i + 2)), .int (xs (i + 1)), .ref 1]) (H' := H) (kc' := kc) (ks' := ks) rfl ?_
  refine RP.call (v := some (.int kk)) (st' := []) rfl rfl rfl rfl rfl rfl rfl hw ?_
  refine RP.blk 1 (pc' := 1902) (lv' := [(5, .int kk), (4, .int (nI i)), (3, .ref 225), (2, .ref 196), (1, .ref 1), (0, .ref 0)]) (st' := []) (H' := H1) (kc' := kc + c1) (ks' := ks + s1) rfl ?_
  refine RP.blk 5 (pc' := 1908) (lv' := [(5, .int kk), (4, .int (nI i)), (3, .ref 225), (2, .ref 196), (1, .ref 1), (0, .ref 0)]) (st' := [.int (nI i + 1), .ref 0, .ref 196]) (H' := H1) (kc' := kc + c1) (ks' := ks + s1) rfl ?_
  rw [show nI i + 1 = nI (i + 1) from nI_add i 1]
  refine RP.sld rfl (by omega) (by omega) ?_
  refine RP.blk 4 (pc' := 1914) (lv' := [(5, .int kk), (4, .int (nI i)), (3, .ref 225), (2, .ref 196), (1, .ref 1), (0, .ref 0)]) (st' := [.int (nI i + 2), .ref 0, .int (xs (i + 1)), .ref 196]) (H' := H1) (kc' := kc + c1) (ks' := ks + s1) rfl ?_
  rw [show nI i + 2 = nI (i + 2) from nI_add i 2]
  refine RP.sld rfl (by omega) (by omega) ?_
  refine RP.call (v := some (.int v)) (st' := []) rfl rfl rfl rfl rfl rfl (args_v2 (a := 195) rfl rfl (by decide) rfl hmo (by decide)) hm ?_
  refine RP.blk 1 (pc' := 1920) (lv' := [(6, .int v), (5, .int kk), (4, .int (nI i)), (3, .ref 225), (2, .ref 196), (1, .ref 1), (0, .ref 0)]) (st' := []) (H' := H2) (kc' := kc + c1 + c2) (ks' := ks + s1 + s2) rfl ?_
  exact k
