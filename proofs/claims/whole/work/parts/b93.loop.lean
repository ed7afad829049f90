/-! ===== the loop of the law, and the claim; written by wip/gen/start2.py ===== -/
theorem InvI.next {k : Nat} {H : aH} (hI : InvI k H) (hk : k < 512) : InvI (k + 1) H := by
  rcases hI with ⟨ky, B, N, P, bb, cw, cl, cp, cb, tb, l, g, rl, wss, t0, op, sm, ms, kd, pa, sz, nl, nm, ps, fa, rs, g0, hJ⟩ | ⟨ky, B, N, P, cw, cl, cp, cb, tb, l, g, rl, wss, t0, op, sm, ms, kd, pa, sz, nl, nm, ps, fa, rs, g0, hJ⟩
  · obtain ⟨j1, j2, j3, j4, j5, j6, j7, j8, j9, j10, j11, j12, j13, j14, j15, j16, j17, j18, j19, jE, j20⟩ := id hJ
    exact Or.inl (hJ.row hk j8 j10 jE.1 jE.2.1 j11.1 (by omega) j6 j7 (fun _ _ => rfl) j20)
  · obtain ⟨d1, d2, d3, d4, d5, d6, d7, d8, d9, d10, d11, d12, d13, d14, d15, d16, d17, jE, d19⟩ := id hJ
    exact Or.inr (hJ.row hk d7 d9 jE.1 jE.2.1 d10.1 (by omega) d5 d6 (fun _ _ => rfl) d19)
/-- what the law's end looks like -/
def FinQ (r : tO × aH × Nat × Nat) : Prop := ∃ H' k n, r = (.inl (some (.int 1)), H', k, n) ∧ k ≤ 601024 ∧ n ≤ 7293000
set_option maxRecDepth 100000 in
set_option maxHeartbeats 1000000 in
theorem rest_go {L i kc ks : Nat} {xs : Nat → Int32} {H : aH} {Q : tO × aH × Nat × Nat → Prop} (k : RQ (L, xs) 2000 mr_law 33 [(4, .int (nI (i + 6))), (3, .ref 225), (2, .ref 196), (1, .ref 1), (0, .ref 0)] [] H kc ks Q) : RQ (L, xs) 2000 mr_law 1951 [(4, .int (nI i)), (3, .ref 225), (2, .ref 196), (1, .ref 1), (0, .ref 0)] [] H kc ks Q := by
  refine RQ.of (fun r kk => seg_RP (f := 0) (d := 1999) 2 (pc' := 33) (lv' := [(4, .int (nI i + 6)), (3, .ref 225), (2, .ref 196), (1, .ref 1), (0, .ref 0)]) (st' := []) (H' := H) (kc' := kc) (ks' := ks) rfl kk) ?_
  rw [nI_6]
  exact k
theorem loop_exit {L i kc ks k : Nat} {xs : Nat → Int32} {H : aH} (hL : L ≤ 3073) (hi : i = 1 + 6 * k) (h1 : kc ≤ 225 + 2 * k) (h2 : ks ≤ 638584 + 12 * k) (h3 : k ≤ 512) (h : L < i + 6) : RQ (L, xs) 2000 mr_law 33 [(4, .int (nI i)), (3, .ref 225), (2, .ref 196), (1, .ref 1), (0, .ref 0)] [] H kc ks FinQ := ⟨_, head_exit (by omega) (by omega) h, H, kc, ks, rfl, by omega, by omega⟩
theorem loop_step {L i kc ks k : Nat} {xs : Nat → Int32} {H : aH} (hL : L ≤ 3073) (h : i + 6 ≤ L) (hk : k < 512) (hI : InvI k H) (kq : Hd L xs i kc ks FinQ (k + 1)) : RQ (L, xs) 2000 mr_law 33 [(4, .int (nI i)), (3, .ref 225), (2, .ref 196), (1, .ref 1), (0, .ref 0)] [] H kc ks FinQ := by
  have hL2 : L < 2 ^ 30 := by omega
  refine RQ.of (fun r kk => head_go hL2 h kk) ?_
  obtain ⟨q, hq, e⟩ := and31 (xs i)
  rcases (show q = 0 ∨ q = 1 ∨ q = 2 ∨ q = 3 ∨ q = 4 ∨ q = 5 ∨ q = 6 ∨ q = 7 ∨ q = 8 ∨ q = 9 ∨ q = 10 ∨ q = 11 ∨ q = 12 ∨ q = 13 ∨ q = 14 ∨ q = 15 ∨ q = 16 ∨ q = 17 ∨ q = 18 ∨ q = 19 ∨ q = 20 ∨ q = 21 ∨ q = 22 ∨ q = 23 ∨ q = 24 ∨ q = 25 ∨ q = 26 ∨ q = 27 ∨ q = 28 ∨ q = 29 ∨ q = 30 ∨ q = 31 by omega) with e9 | e9 | e9 | e9 | e9 | e9 | e9 | e9 | e9 | e9 | e9 | e9 | e9 | e9 | e9 | e9 | e9 | e9 | e9 | e9 | e9 | e9 | e9 | e9 | e9 | e9 | e9 | e9 | e9 | e9 | e9 | e9 <;> subst e9
  · exact RQ.of (fun r kk => go_op0 e kk) (iv_feed hL2 h hI hk kq)
  · exact RQ.of (fun r kk => go_op1 e kk) (iv_fill hL2 h hI hk kq)
  · exact RQ.of (fun r kk => go_op2 e kk) (iv_end hL2 h hI hk kq)
  · exact RQ.of (fun r kk => go_op3 e kk) (iv_begin hL2 h hI hk kq)
  · exact RQ.of (fun r kk => go_op4 e kk) (iv_put hL2 h hI hk kq)
  · exact RQ.of (fun r kk => go_op5 e kk) (iv_delete hL2 h hI hk kq)
  · exact RQ.of (fun r kk => go_op6 e kk) (iv_get hL2 h hI hk kq)
  · exact RQ.of (fun r kk => go_op7 e kk) (iv_seek hL2 h hI hk kq)
  · exact RQ.of (fun r kk => go_op8 e kk) (iv_commit hL2 h hI hk kq)
  · exact RQ.of (fun r kk => go_op9 e kk) (iv_abort hL2 h hI hk kq)
  · exact RQ.of (fun r kk => go_op10 e kk) (iv_flush hL2 h hI hk kq)
  · exact RQ.of (fun r kk => go_op11 e kk) (iv_compact hL2 h hI hk kq)
  · exact RQ.of (fun r kk => go_op12 e kk) (iv_collect hL2 h hI hk kq)
  · exact RQ.of (fun r kk => go_op13 e kk) (iv_cut hL2 h hI hk kq)
  · exact RQ.of (fun r kk => go_op14 e kk) (iv_mount hL2 h hI hk kq)
  · exact RQ.of (fun r kk => go_op15 e kk) (iv_word hL2 h hI hk kq)
  · exact RQ.of (fun r kk => go_op16 e kk) (iv_count hL2 h hI hk kq)
  · exact RQ.of (fun r kk => go_op17 e kk) (iv_faults hL2 h hI hk kq)
  · exact RQ.of (fun r kk => go_op18 e kk) (iv_check hL2 h hI hk kq)
  · exact RQ.of (fun r kk => go_op19 e kk) (iv_make hL2 h hI hk kq)
  · exact RQ.of (fun r kk => go_op20 e kk) (iv_remove hL2 h hI hk kq)
  · exact RQ.of (fun r kk => go_op21 e kk) (iv_rename hL2 h hI hk kq)
  · exact RQ.of (fun r kk => go_op22 e kk) (iv_find hL2 h hI hk kq)
  · exact RQ.of (fun r kk => go_op23 e kk) (iv_write hL2 h hI hk kq)
  · exact RQ.of (fun r kk => go_op24 e kk) (iv_read hL2 h hI hk kq)
  · exact RQ.of (fun r kk => go_op25 e kk) (iv_resize hL2 h hI hk kq)
  · exact RQ.of (fun r kk => go_op26 e kk) (iv_list hL2 h hI hk kq)
  · exact RQ.of (fun r kk => go_op27 e kk) (iv_about hL2 h hI hk kq)
  · exact RQ.of (fun r kk => go_op28 e kk) (rest_go (kq.go0 (hI.next hk)))
  · exact RQ.of (fun r kk => go_op29 e kk) (rest_go (kq.go0 (hI.next hk)))
  · exact RQ.of (fun r kk => go_op30 e kk) (rest_go (kq.go0 (hI.next hk)))
  · exact RQ.of (fun r kk => go_op31 e kk) (rest_go (kq.go0 (hI.next hk)))
theorem loop_good {L : Nat} {xs : Nat → Int32} (hL : L ≤ 3073) (m : Nat) : ∀ (k : Nat), 512 ≤ k + m → ∀ (i kc ks : Nat) (H : aH), i = 1 + 6 * k → InvI k H → kc ≤ 225 + 2 * k → ks ≤ 638584 + 12 * k → k ≤ 512 → RQ (L, xs) 2000 mr_law 33 [(4, .int (nI i)), (3, .ref 225), (2, .ref 196), (1, .ref 1), (0, .ref 0)] [] H kc ks FinQ := by
  induction m with
  | zero =>
    intro k hm i kc ks H hi hI h1 h2 h3
    exact loop_exit hL hi h1 h2 h3 (by omega)
  | succ m ih =>
    intro k hm i kc ks H hi hI h1 h2 h3
    by_cases h : i + 6 ≤ L
    · exact loop_step hL h (by omega) hI (fun H2 n hn hI2 => ih (k + 1) (by omega) (i + 6) (kc + n) (ks + 6 * n) H2 (by omega) hI2 (by omega) (by omega) (by omega))
    · exact loop_exit hL hi h1 h2 h3 (by omega)
theorem good_of {L B : Nat} {xs : Nat → Int32} (hL : L ≤ 3073) (hB : B = 64 ∨ B = 96 ∨ B = 128) {ks : Nat} (hks : ks ≤ 638584) {H : aH} (hH : H = hpB B) (st : ∀ r, RP (L, xs) 2000 mr_law 33 [(4, .int 1), (3, .ref 225), (2, .ref 196), (1, .ref 1), (0, .ref 0)] [] H 225 ks r → RP (L, xs) 2000 mr_law 0 [(0, .ref 0)] [] [] 0 0 r) : goodRun L xs := by
  obtain ⟨r, hr, H', k, n, e, h1, h2⟩ := loop_good (xs := xs) hL 512 0 (by decide) 1 225 ks H rfl (by rw [hH]; exact st_inv hB) (by decide) (by omega) (by decide)
  subst e
  obtain ⟨f, hf⟩ := st _ hr
  exact ⟨f, H', k, n, hf, h1, h2⟩
theorem all_good (L : Nat) (xs : Nat → Int32) (hL : L ≤ 3073) : goodRun L xs := by
  have hb : (L, xs).1 < 2 ^ 31 := by
    show L < 2 ^ 31
    omega
  by_cases h0 : cell0 (L, xs) = 0
  · exact good_of hL (Or.inl rfl) (by decide) hp64_B (fun r k => law_start64 hb h0 k)
  · by_cases h1 : cell0 (L, xs) = 1
    · exact good_of hL (Or.inr (Or.inl rfl)) (by decide) hp96_B (fun r k => law_start96 hb h1 k)
    · exact good_of hL (Or.inr (Or.inr rfl)) (by decide) hp128_B (fun r k => law_start128 hb h0 h1 k)
theorem i_vc : Claimed_1_1 ∧ Claimed_1_2 := claim_of all_good
