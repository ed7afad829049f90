/-! ===== feed, fill, end, cut, word, faults: each case of the law, from every state of the invariant; written by wip/gen/simple.py ===== -/
section S66
variable {L i k kc ks : Nat} {xs : Nat → Int32} {Q : tO × aH × Nat × Nat → Prop} {H : aH}
theorem iv_feed (hL : L < 2 ^ 30) (h : i + 6 ≤ L) (hI : InvI k H) (hk : k < 512) (kq : Hd L xs i kc ks Q (k + 1)) : RQ (L, xs) 2000 mr_law 176 [(4, .int (nI i)), (3, .ref 225), (2, .ref 196), (1, .ref 1), (0, .ref 0)] [] H kc ks Q := by
  rcases hI with ⟨ky, B, N, P, bb, cw, cl, cp, cb, tb, l, g, rl, wss, t0, op, sm, ms, kd, pa, sz, nl, nm, ps, fa, rs, g0, hJ⟩ | ⟨ky, B, N, P, cw, cl, cp, cb, tb, l, g, rl, wss, t0, op, sm, ms, kd, pa, sz, nl, nm, ps, fa, rs, g0, hJ⟩
  · obtain ⟨j1, j2, j3, j4, j5, j6, j7, j8, j9, j10, j11, j12, j13, j14, j15, j16, j17, j18, j19, jE, e, j20⟩ := id hJ
    obtain ⟨us, ba, bo, m1, hF, hG, qV, hR⟩ := hJ.fld hk
    obtain ⟨-, -, -, -, -, q5, q6, qR, qT, q8, q9, -⟩ := j10.cells
    by_cases hc : l + 20 ≤ 2000
    · refine RQ.of (fun r kk => step_feed_ok hL h j8.1 rfl rfl ⟨j8.2.1, j8.2.2.1, by decide, by decide⟩ (⟨m1, rfl, rfl, rfl, q8, by decide, by decide⟩ : ModAt H 195 196 2000 tb _ l) rfl j20 hc kk) ?_
      refine kq.go0 (Or.inl (hJ.row (cw' := cw) (cl' := cl) (cp' := cp) (cb' := cb) (fa' := 0) (tb' := up20 tb l xs i) (l' := l + 20) hk ?_ ?_ jE.1 jE.2.1 hc (by omega) j6 j7 ?_ ?_))
      · exact tape_cls j8
      · exact hR _ 0 0 cw cl _ (l + 20) rs g0 (tape_195 m1) (tape_196 q8) ((tape_far (by decide) (by decide) (by decide) (by decide) (by decide)).trans q9) (fun a a1 a2 => tape_far (by omega) (by omega) (by omega) (by omega) (by omega))
      · exact fun a ha => tape_far (by omega) (by omega) (by omega) (by omega) (by omega)
      · exact ⟨_, tape_224 j20⟩
    · have hl := j11.1
      exact RQ.of (fun r kk => step_feed_full hL h j8.1 rfl rfl ⟨j8.2.1, j8.2.2.1, by decide, by decide⟩ m1 rfl rfl rfl (by omega) (by omega) kk) (kq.go1 (Or.inl (hF 2)))
  · obtain ⟨d1, d2, d3, d4, d5, d6, d7, d8, d9, d10, d11, d12, d13, d14, d15, d16, d17, jE, e, d19⟩ := id hJ
    obtain ⟨us, ba, bo, m1, hF, hG, qV, hR⟩ := hJ.fld hk
    obtain ⟨-, -, -, -, -, q5, q6, qR, qT, q8, q9, -⟩ := d9.cells
    exact RQ.of (fun r kk => step_feed_down hL h d7.1 rfl m1 rfl rfl kk) (kq.go1 (Or.inr (hF 1)))
theorem iv_fill (hL : L < 2 ^ 30) (h : i + 6 ≤ L) (hI : InvI k H) (hk : k < 512) (kq : Hd L xs i kc ks Q (k + 1)) : RQ (L, xs) 2000 mr_law 280 [(4, .int (nI i)), (3, .ref 225), (2, .ref 196), (1, .ref 1), (0, .ref 0)] [] H kc ks Q := by
  rcases hI with ⟨ky, B, N, P, bb, cw, cl, cp, cb, tb, l, g, rl, wss, t0, op, sm, ms, kd, pa, sz, nl, nm, ps, fa, rs, g0, hJ⟩ | ⟨ky, B, N, P, cw, cl, cp, cb, tb, l, g, rl, wss, t0, op, sm, ms, kd, pa, sz, nl, nm, ps, fa, rs, g0, hJ⟩
  · obtain ⟨j1, j2, j3, j4, j5, j6, j7, j8, j9, j10, j11, j12, j13, j14, j15, j16, j17, j18, j19, jE, e, j20⟩ := id hJ
    obtain ⟨us, ba, bo, m1, hF, hG, qV, hR⟩ := hJ.fld hk
    obtain ⟨-, -, -, -, -, q5, q6, qR, qT, q8, q9, -⟩ := j10.cells
    by_cases hb : (xs (i + 1) < 0 ∨ ¬ xs (i + 1) ≤ 255) ∨ (xs (i + 2) < 1 ∨ ¬ xs (i + 2) ≤ 1000)
    · exact RQ.of (fun r kk => step_fill_bad (n := 0) (f := tb) hL h j8.1 m1 rfl hb kk) (kq.go1 (Or.inl (hF 1)))
    · obtain ⟨v, hv, e1⟩ := nI_of2 (x := xs (i + 1)) (M := 255) (n := 255) rfl (fun q => hb (Or.inl (Or.inl q))) (Classical.not_not.mp (fun q => hb (Or.inl (Or.inr q))))
      obtain ⟨m, e2, hk1, hk2⟩ := k_of (y := xs (i + 2)) (m := 1000) (by decide) (fun q => hb (Or.inr q))
      have hl := j11.1
      by_cases hc : l + m ≤ 2000
      · refine RQ.of (fun r kk => step_fill_ok (b := 2) (n := 2000) (c := 196) (n2 := 2000) hL h j8.1 rfl rfl ⟨j8.2.1, j8.2.2.1, by decide, by decide⟩ (by decide) (by decide) (by decide) (by decide) (by decide) (⟨m1, rfl, rfl, rfl, q8, by decide, by decide⟩ : ModAt H 195 196 2000 tb _ l) (by decide) (by decide) (by decide) rfl j20 e1 e2 hv hk1 hk2 hc kk) ?_
        refine kq.go0 (Or.inl (hJ.row (cw' := cw) (cl' := cl) (cp' := cp) (cb' := cb) (fa' := 0) (tb' := fun j => if l ≤ j ∧ j < l + m then (nI v).toInt8 else tb j) (l' := l + m) hk ?_ ?_ jE.1 jE.2.1 hc (by omega) j6 j7 ?_ ?_))
        · exact tape_cls j8
        · exact hR _ 0 0 cw cl _ (l + m) rs g0 (tape_195 m1) (tape_196 q8) ((tape_far (by decide) (by decide) (by decide) (by decide) (by decide)).trans q9) (fun a a1 a2 => tape_far (by omega) (by omega) (by omega) (by omega) (by omega))
        · exact fun a ha => tape_far (by omega) (by omega) (by omega) (by omega) (by omega)
        · exact ⟨_, tape_224 j20⟩
      · exact RQ.of (fun r kk => step_fill_full (n := 2000) (b := 2) (f := tb) hL h j8.1 rfl rfl ⟨j8.2.1, j8.2.2.1, by decide, by decide⟩ m1 rfl rfl rfl e1 e2 hv hk1 hk2 (by omega) hl kk) (kq.go1 (Or.inl (hF 3)))
  · obtain ⟨d1, d2, d3, d4, d5, d6, d7, d8, d9, d10, d11, d12, d13, d14, d15, d16, d17, jE, e, d19⟩ := id hJ
    obtain ⟨us, ba, bo, m1, hF, hG, qV, hR⟩ := hJ.fld hk
    obtain ⟨-, -, -, -, -, q5, q6, qR, qT, q8, q9, -⟩ := d9.cells
    by_cases hb : (xs (i + 1) < 0 ∨ ¬ xs (i + 1) ≤ 255) ∨ (xs (i + 2) < 1 ∨ ¬ xs (i + 2) ≤ 1000)
    · exact RQ.of (fun r kk => step_fill_bad (n := 0) (f := tb) hL h d7.1 m1 rfl hb kk) (kq.go1 (Or.inr (hF 1)))
    · obtain ⟨v, hv, e1⟩ := nI_of2 (x := xs (i + 1)) (M := 255) (n := 255) rfl (fun q => hb (Or.inl (Or.inl q))) (Classical.not_not.mp (fun q => hb (Or.inl (Or.inr q))))
      obtain ⟨m, e2, hk1, hk2⟩ := k_of (y := xs (i + 2)) (m := 1000) (by decide) (fun q => hb (Or.inr q))
      exact RQ.of (fun r kk => step_fill_down (n := 0) (f := tb) hL h d7.1 rfl m1 rfl rfl e1 e2 hv hk1 hk2 kk) (kq.go1 (Or.inr (hF 2)))
theorem iv_end (hL : L < 2 ^ 30) (h : i + 6 ≤ L) (hI : InvI k H) (hk : k < 512) (kq : Hd L xs i kc ks Q (k + 1)) : RQ (L, xs) 2000 mr_law 348 [(4, .int (nI i)), (3, .ref 225), (2, .ref 196), (1, .ref 1), (0, .ref 0)] [] H kc ks Q := by
  rcases hI with ⟨ky, B, N, P, bb, cw, cl, cp, cb, tb, l, g, rl, wss, t0, op, sm, ms, kd, pa, sz, nl, nm, ps, fa, rs, g0, hJ⟩ | ⟨ky, B, N, P, cw, cl, cp, cb, tb, l, g, rl, wss, t0, op, sm, ms, kd, pa, sz, nl, nm, ps, fa, rs, g0, hJ⟩
  · obtain ⟨j1, j2, j3, j4, j5, j6, j7, j8, j9, j10, j11, j12, j13, j14, j15, j16, j17, j18, j19, jE, e, j20⟩ := id hJ
    obtain ⟨us, ba, bo, m1, hF, hG, qV, hR⟩ := hJ.fld hk
    obtain ⟨-, -, -, -, -, q5, q6, qR, qT, q8, q9, -⟩ := j10.cells
    have hl := j11.1
    by_cases hb : xs (i + 1) < 0 ∨ ¬ xs (i + 1) ≤ nI l
    · exact RQ.of (fun r kk => step_end_bad (b := 2) (n := 2000) hL h j8.1 rfl ⟨j8.2.1, j8.2.2.1, by decide, by decide⟩ m1 rfl rfl hb kk) (kq.go1 (Or.inl (hF 1)))
    · obtain ⟨m, hm, e1⟩ := nI_of2 (x := xs (i + 1)) (M := nI l) (n := l) (nI_toInt (by omega)) (fun q => hb (Or.inl q)) (Classical.not_not.mp (fun q => hb (Or.inr q)))
      refine RQ.of (fun r kk => step_end_ok (b := 2) (n := 2000) hL h j8.1 rfl rfl ⟨j8.2.1, j8.2.2.1, by decide, by decide⟩ m1 rfl rfl rfl j20 (by omega) e1 hm kk) ?_
      obtain ⟨q, p, h5, h6⟩ := j8.2.2.2.2.2.1
      have far : ∀ a, a ≠ 1 → a ≠ 224 → a ≠ 195 → ∀ (c1 c2 c3 : aC), (((H.set 1 c1).set 224 c2).set 195 c3)[a]? = H[a]? := fun a a1 a2 a3 c1 c2 c3 => (set_far a3).trans ((set_far a2).trans (set_far a1))
      refine kq.go0 (Or.inl (hJ.row (cw' := cw) (cl' := cl) (cp' := cp) (cb' := cb) (fa' := 0) (tb' := tb) (l' := m) hk ?_ ?_ jE.1 jE.2.1 (by omega) (by omega) j6 j7 ?_ ?_))
      · exact j8.small ((far 0 (by decide) (by decide) (by decide) _ _ _).trans j8.1) ((set_far (by decide)).trans ((set_far (by decide)).trans (get_set j8.2.1))) ((far 2 (by decide) (by decide) (by decide) _ _ _).trans j8.2.2.1) ((far 3 (by decide) (by decide) (by decide) _ _ _).trans j8.2.2.2.1) ((far 4 (by decide) (by decide) (by decide) _ _ _).trans j8.2.2.2.2.1) ⟨q, p, (far 5 (by decide) (by decide) (by decide) _ _ _).trans h5, (far 6 (by decide) (by decide) (by decide) _ _ _).trans h6⟩ (fun a a1 a2 => far a (by omega) (by omega) (by omega) _ _ _)
      · exact hR _ 0 0 cw cl tb m rs g0 (get_set ((set_far (by decide)).trans ((set_far (by decide)).trans m1))) ((far 196 (by decide) (by decide) (by decide) _ _ _).trans q8) ((far 197 (by decide) (by decide) (by decide) _ _ _).trans q9) (fun a a1 a2 => far a (by omega) (by omega) (by omega) _ _ _)
      · exact fun a ha => far a (by omega) (by omega) (by omega) _ _ _
      · exact ⟨_, (set_far (by decide)).trans (get_set ((set_far (by decide)).trans j20))⟩
  · obtain ⟨d1, d2, d3, d4, d5, d6, d7, d8, d9, d10, d11, d12, d13, d14, d15, d16, d17, jE, e, d19⟩ := id hJ
    obtain ⟨us, ba, bo, m1, hF, hG, qV, hR⟩ := hJ.fld hk
    obtain ⟨-, -, -, -, -, q5, q6, qR, qT, q8, q9, -⟩ := d9.cells
    have hl := d10.1
    by_cases hb : xs (i + 1) < 0 ∨ ¬ xs (i + 1) ≤ nI l
    · exact RQ.of (fun r kk => step_end_bad (b := 2) (n := 2000) hL h d7.1 rfl ⟨d7.2.1, d7.2.2.1, by decide, by decide⟩ m1 rfl rfl hb kk) (kq.go1 (Or.inr (hF 1)))
    · obtain ⟨m, hm, e1⟩ := nI_of2 (x := xs (i + 1)) (M := nI l) (n := l) (nI_toInt (by omega)) (fun q => hb (Or.inl q)) (Classical.not_not.mp (fun q => hb (Or.inr q)))
      exact RQ.of (fun r kk => step_end_down (b := 2) (n := 2000) hL h d7.1 rfl rfl ⟨d7.2.1, d7.2.2.1, by decide, by decide⟩ m1 rfl rfl rfl (by omega) e1 hm kk) (kq.go1 (Or.inr (hF 2)))
theorem iv_cut (hL : L < 2 ^ 30) (h : i + 6 ≤ L) (hI : InvI k H) (hk : k < 512) (kq : Hd L xs i kc ks Q (k + 1)) : RQ (L, xs) 2000 mr_law 984 [(4, .int (nI i)), (3, .ref 225), (2, .ref 196), (1, .ref 1), (0, .ref 0)] [] H kc ks Q := by
  rcases hI with ⟨ky, B, N, P, bb, cw, cl, cp, cb, tb, l, g, rl, wss, t0, op, sm, ms, kd, pa, sz, nl, nm, ps, fa, rs, g0, hJ⟩ | ⟨ky, B, N, P, cw, cl, cp, cb, tb, l, g, rl, wss, t0, op, sm, ms, kd, pa, sz, nl, nm, ps, fa, rs, g0, hJ⟩
  · obtain ⟨j1, j2, j3, j4, j5, j6, j7, j8, j9, j10, j11, j12, j13, j14, j15, j16, j17, j18, j19, jE, e, j20⟩ := id hJ
    obtain ⟨us, ba, bo, m1, hF, hG, qV, hR⟩ := hJ.fld hk
    obtain ⟨-, -, -, -, -, q5, q6, qR, qT, q8, q9, -⟩ := j10.cells
    by_cases hb : xs (i + 2) < 0 ∨ xs (i + 3) < 0
    · exact RQ.of (fun r kk => step_cut_bad hL h j8.1 m1 hb kk) (kq.go1 (Or.inl (hF 1)))
    · obtain ⟨cp', hcp, e2⟩ := nI_of (fun q => hb (Or.inl q))
      obtain ⟨cb', hcb, e3⟩ := nI_of (fun q => hb (Or.inr q))
      refine RQ.of (fun r kk => step_cut_ok hL h jE.1 j8.1 m1 j20 (fun q => hb (Or.inl q)) (fun q => hb (Or.inr q)) kk) ?_
      rw [e2, e3]
      obtain ⟨q, p, h5, h6⟩ := j8.2.2.2.2.2.1
      have far : ∀ a, a ≠ 0 → a ≠ 224 → a ≠ 195 → ∀ (c1 c2 c3 : aC), (((H.set 0 c1).set 224 c2).set 195 c3)[a]? = H[a]? := fun a a1 a2 a3 c1 c2 c3 => (set_far a3).trans ((set_far a2).trans (set_far a1))
      refine kq.go0 (Or.inl (hJ.row (cw' := 1) (cl' := bz (xs (i + 1))) (cp' := cp') (cb' := cb') (fa' := 0) (tb' := tb) (l' := l) hk ?_ ?_ (Or.inr rfl) (bz_01 _) j11.1 (by omega) hcp hcb ?_ ?_))
      · exact j8.small ((set_far (by decide)).trans ((set_far (by decide)).trans (get_set j8.1))) ((far 1 (by decide) (by decide) (by decide) _ _ _).trans j8.2.1) ((far 2 (by decide) (by decide) (by decide) _ _ _).trans j8.2.2.1) ((far 3 (by decide) (by decide) (by decide) _ _ _).trans j8.2.2.2.1) ((far 4 (by decide) (by decide) (by decide) _ _ _).trans j8.2.2.2.2.1) ⟨q, p, (far 5 (by decide) (by decide) (by decide) _ _ _).trans h5, (far 6 (by decide) (by decide) (by decide) _ _ _).trans h6⟩ (fun a a1 a2 => far a (by omega) (by omega) (by omega) _ _ _)
      · exact hR _ 0 0 1 (bz (xs (i + 1))) tb l rs g0 (get_set ((set_far (by decide)).trans ((set_far (by decide)).trans m1))) ((far 196 (by decide) (by decide) (by decide) _ _ _).trans q8) ((far 197 (by decide) (by decide) (by decide) _ _ _).trans q9) (fun a a1 a2 => far a (by omega) (by omega) (by omega) _ _ _)
      · exact fun a ha => far a (by omega) (by omega) (by omega) _ _ _
      · exact ⟨_, (set_far (by decide)).trans (get_set ((set_far (by decide)).trans j20))⟩
  · obtain ⟨d1, d2, d3, d4, d5, d6, d7, d8, d9, d10, d11, d12, d13, d14, d15, d16, d17, jE, e, d19⟩ := id hJ
    obtain ⟨us, ba, bo, m1, hF, hG, qV, hR⟩ := hJ.fld hk
    obtain ⟨-, -, -, -, -, q5, q6, qR, qT, q8, q9, -⟩ := d9.cells
    by_cases hb : xs (i + 2) < 0 ∨ xs (i + 3) < 0
    · exact RQ.of (fun r kk => step_cut_bad hL h d7.1 m1 hb kk) (kq.go1 (Or.inr (hF 1)))
    · obtain ⟨cp', hcp, e2⟩ := nI_of (fun q => hb (Or.inl q))
      obtain ⟨cb', hcb, e3⟩ := nI_of (fun q => hb (Or.inr q))
      refine RQ.of (fun r kk => step_cut_ok hL h jE.1 d7.1 m1 d19 (fun q => hb (Or.inl q)) (fun q => hb (Or.inr q)) kk) ?_
      rw [e2, e3]
      obtain ⟨q, p, h5, h6⟩ := d7.2.2.2.2.2.1
      have far : ∀ a, a ≠ 0 → a ≠ 224 → a ≠ 195 → ∀ (c1 c2 c3 : aC), (((H.set 0 c1).set 224 c2).set 195 c3)[a]? = H[a]? := fun a a1 a2 a3 c1 c2 c3 => (set_far a3).trans ((set_far a2).trans (set_far a1))
      refine kq.go0 (Or.inr (hJ.row (cw' := 1) (cl' := bz (xs (i + 1))) (cp' := cp') (cb' := cb') (fa' := 0) (tb' := tb) (l' := l) hk ?_ ?_ (Or.inr rfl) (bz_01 _) d10.1 (by omega) hcp hcb ?_ ?_))
      · exact d7.small ((set_far (by decide)).trans ((set_far (by decide)).trans (get_set d7.1))) ((far 1 (by decide) (by decide) (by decide) _ _ _).trans d7.2.1) ((far 2 (by decide) (by decide) (by decide) _ _ _).trans d7.2.2.1) ((far 3 (by decide) (by decide) (by decide) _ _ _).trans d7.2.2.2.1) ((far 4 (by decide) (by decide) (by decide) _ _ _).trans d7.2.2.2.2.1) ⟨q, p, (far 5 (by decide) (by decide) (by decide) _ _ _).trans h5, (far 6 (by decide) (by decide) (by decide) _ _ _).trans h6⟩ (fun a a1 a2 => far a (by omega) (by omega) (by omega) _ _ _)
      · exact hR _ 0 1 1 (bz (xs (i + 1))) tb l rs g0 (get_set ((set_far (by decide)).trans ((set_far (by decide)).trans m1))) ((far 196 (by decide) (by decide) (by decide) _ _ _).trans q8) ((far 197 (by decide) (by decide) (by decide) _ _ _).trans q9) (fun a a1 a2 => far a (by omega) (by omega) (by omega) _ _ _)
      · exact fun a ha => far a (by omega) (by omega) (by omega) _ _ _
      · exact ⟨_, (set_far (by decide)).trans (get_set ((set_far (by decide)).trans d19))⟩
theorem iv_word (hL : L < 2 ^ 30) (h : i + 6 ≤ L) (hI : InvI k H) (hk : k < 512) (kq : Hd L xs i kc ks Q (k + 1)) : RQ (L, xs) 2000 mr_law 1124 [(4, .int (nI i)), (3, .ref 225), (2, .ref 196), (1, .ref 1), (0, .ref 0)] [] H kc ks Q := by
  rcases hI with ⟨ky, B, N, P, bb, cw, cl, cp, cb, tb, l, g, rl, wss, t0, op, sm, ms, kd, pa, sz, nl, nm, ps, fa, rs, g0, hJ⟩ | ⟨ky, B, N, P, cw, cl, cp, cb, tb, l, g, rl, wss, t0, op, sm, ms, kd, pa, sz, nl, nm, ps, fa, rs, g0, hJ⟩
  · obtain ⟨j1, j2, j3, j4, j5, j6, j7, j8, j9, j10, j11, j12, j13, j14, j15, j16, j17, j18, j19, jE, e, j20⟩ := id hJ
    obtain ⟨us, ba, bo, m1, hF, hG, qV, hR⟩ := hJ.fld hk
    obtain ⟨-, -, -, -, -, q5, q6, qR, qT, q8, q9, -⟩ := j10.cells
    rw [j18] at m1 hF hG
    by_cases hb : xs (i + 1) < 0 ∨ ¬ xs (i + 1) < nI rl
    · exact step_word_bad hL h j8.1 j8.2.2.2.1 m1 hb (kq.go1 (Or.inl (hF 2)))
    · have hrl := jE.2.2.1.1
      obtain ⟨m, hm, e1⟩ := nI_of (fun q => hb (Or.inl q))
      have hlt : m < rl := by
        have h9 := Classical.not_not.mp (fun q => hb (Or.inr q))
        rw [e1] at h9
        exact (nI_ltI hm (by omega)).mp h9
      exact step_word_ok hL h j8.1 ⟨j8.2.2.2.1, j8.2.2.2.2.1, by decide, by decide⟩ m1 q9 j20 j19 e1 hrl hlt (kq.go0 (Or.inl (hG 0 _)))
  · obtain ⟨d1, d2, d3, d4, d5, d6, d7, d8, d9, d10, d11, d12, d13, d14, d15, d16, d17, jE, e, d19⟩ := id hJ
    obtain ⟨us, ba, bo, m1, hF, hG, qV, hR⟩ := hJ.fld hk
    obtain ⟨-, -, -, -, -, q5, q6, qR, qT, q8, q9, -⟩ := d9.cells
    exact step_word_down hL h d7.1 m1 (kq.go1 (Or.inr (hF 1)))
theorem iv_faults (hL : L < 2 ^ 30) (h : i + 6 ≤ L) (hI : InvI k H) (hk : k < 512) (kq : Hd L xs i kc ks Q (k + 1)) : RQ (L, xs) 2000 mr_law 1235 [(4, .int (nI i)), (3, .ref 225), (2, .ref 196), (1, .ref 1), (0, .ref 0)] [] H kc ks Q := by
  rcases hI with ⟨ky, B, N, P, bb, cw, cl, cp, cb, tb, l, g, rl, wss, t0, op, sm, ms, kd, pa, sz, nl, nm, ps, fa, rs, g0, hJ⟩ | ⟨ky, B, N, P, cw, cl, cp, cb, tb, l, g, rl, wss, t0, op, sm, ms, kd, pa, sz, nl, nm, ps, fa, rs, g0, hJ⟩
  · obtain ⟨j1, j2, j3, j4, j5, j6, j7, j8, j9, j10, j11, j12, j13, j14, j15, j16, j17, j18, j19, jE, e, j20⟩ := id hJ
    obtain ⟨us, ba, bo, m1, hF, hG, qV, hR⟩ := hJ.fld hk
    obtain ⟨-, -, -, -, -, q5, q6, qR, qT, q8, q9, -⟩ := j10.cells
    obtain ⟨S, lgs, fr, ff, wr, tp, rs9, us9, c, P1, gs, vs, tss, Lc, u1, -⟩ := id j9
    obtain ⟨⟨tf, pq, ms9, mt9, sq9, tu9, ⟨lg9, pi9, hY, -⟩, hC, -⟩, -, -, -, -, -, -, -, -, hA⟩ := u1
    have hc71 : H[71]? = some (kO 1 _) := hC.1
    have hc83 : H[83]? = some (kO 3 _) := hY.1
    obtain ⟨hA1, ⟨lm, bf, -, hA3⟩, -⟩ := hA
    by_cases hb : xs (i + 1) < 0 ∨ ¬ xs (i + 1) ≤ 5
    · exact step_faults_bad hL h j8.1 m1 hb (kq.go1 (Or.inl (hF 1)))
    · obtain ⟨v, hv, e1⟩ := nI_of2 (x := xs (i + 1)) (M := 5) (n := 5) rfl (fun q => hb (Or.inl q)) (Classical.not_not.mp (fun q => hb (Or.inr q)))
      rcases (show v = 0 ∨ v = 1 ∨ v = 2 ∨ v = 3 ∨ v = 4 ∨ v = 5 by omega) with r | r | r | r | r | r
      · exact step_faults0 hL h j8.1 m1 hc71 rfl j20 (by rw [e1, r]) (kq.go0 (Or.inl (hG 0 _)))
      · exact step_faults1 hL h j8.1 m1 hA1 rfl j20 (by rw [e1, r]) (kq.go0 (Or.inl (hG 0 _)))
      · exact step_faults2 hL h j8.1 m1 hA1 rfl j20 (by rw [e1, r]) (kq.go0 (Or.inl (hG 0 _)))
      · exact step_faults3 hL h j8.1 m1 hA3 rfl j20 (by rw [e1, r]) (kq.go0 (Or.inl (hG 0 _)))
      · exact step_faults4 hL h j8.1 m1 hc83 rfl j20 (by rw [e1, r]) (kq.go0 (Or.inl (hG 0 _)))
      · exact step_faults5 hL h j8.1 m1 hc83 rfl j20 (by rw [e1, r]) (kq.go0 (Or.inl (hG 0 _)))
  · obtain ⟨d1, d2, d3, d4, d5, d6, d7, d8, d9, d10, d11, d12, d13, d14, d15, d16, d17, jE, e, d19⟩ := id hJ
    obtain ⟨us, ba, bo, m1, hF, hG, qV, hR⟩ := hJ.fld hk
    obtain ⟨-, -, -, -, -, q5, q6, qR, qT, q8, q9, -⟩ := d9.cells
    obtain ⟨bb, S, lgs, rs9, c, vs, tss, Lc, ms0, -, -, ⟨P0, fr0, ff0, gs0, jk, ⟨⟨tf, ms9, sq9, hC, -, -, ⟨lg1, fr1, ff1, wr1, tp1, rs1, ms1, mt1, sq1, tu1, us1, -, ⟨lg9, pi9, hY, -⟩⟩, -⟩, -, -, -, -, -, hA⟩, -⟩, -⟩ := id d8
    have hc71 : H[71]? = some (kO 1 _) := hC.1.1
    have hc83 : H[83]? = some (kO 3 _) := hY.1
    obtain ⟨hA1, ⟨lm, bf, -, hA3⟩, -⟩ := hA
    by_cases hb : xs (i + 1) < 0 ∨ ¬ xs (i + 1) ≤ 5
    · exact step_faults_bad hL h d7.1 m1 hb (kq.go1 (Or.inr (hF 1)))
    · obtain ⟨v, hv, e1⟩ := nI_of2 (x := xs (i + 1)) (M := 5) (n := 5) rfl (fun q => hb (Or.inl q)) (Classical.not_not.mp (fun q => hb (Or.inr q)))
      rcases (show v = 0 ∨ v = 1 ∨ v = 2 ∨ v = 3 ∨ v = 4 ∨ v = 5 by omega) with r | r | r | r | r | r
      · exact step_faults0 hL h d7.1 m1 hc71 rfl d19 (by rw [e1, r]) (kq.go0 (Or.inr (hG 0 _)))
      · exact step_faults1 hL h d7.1 m1 hA1 rfl d19 (by rw [e1, r]) (kq.go0 (Or.inr (hG 0 _)))
      · exact step_faults2 hL h d7.1 m1 hA1 rfl d19 (by rw [e1, r]) (kq.go0 (Or.inr (hG 0 _)))
      · exact step_faults3 hL h d7.1 m1 hA3 rfl d19 (by rw [e1, r]) (kq.go0 (Or.inr (hG 0 _)))
      · exact step_faults4 hL h d7.1 m1 hc83 rfl d19 (by rw [e1, r]) (kq.go0 (Or.inr (hG 0 _)))
      · exact step_faults5 hL h d7.1 m1 hc83 rfl d19 (by rw [e1, r]) (kq.go0 (Or.inr (hG 0 _)))
end S66
