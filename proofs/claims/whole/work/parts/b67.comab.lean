/-! ===== commit and abort: each case of the law, from every state of the invariant; written by wip/gen/simple.py ===== -/
section S67
variable {L i k kc ks : Nat} {xs : Nat → Int32} {Q : tO × aH × Nat × Nat → Prop} {H : aH}
theorem iv_commit (hL : L < 2 ^ 30) (h : i + 6 ≤ L) (hI : InvI k H) (hk : k < 512) (kq : Hd L xs i kc ks Q (k + 1)) : RQ (L, xs) 2000 mr_law 712 [(4, .int (nI i)), (3, .ref 225), (2, .ref 196), (1, .ref 1), (0, .ref 0)] [] H kc ks Q := by
  rcases hI with ⟨ky, B, N, P, bb, cw, cl, cp, cb, tb, l, g, rl, wss, t0, op, sm, ms, kd, pa, sz, nl, nm, ps, fa, rs, g0, hJ⟩ | ⟨ky, B, N, P, cw, cl, cp, cb, tb, l, g, rl, wss, t0, op, sm, ms, kd, pa, sz, nl, nm, ps, fa, rs, g0, hJ⟩
  · obtain ⟨j1, j2, j3, j4, j5, j6, j7, j8, j9, j10, j11, j12, j13, j14, j15, j16, j17, j18, j19, jE, e, j20⟩ := id hJ
    obtain ⟨us, ba, bo, m1, hF, hG, qV, hR⟩ := hJ.fld hk
    obtain ⟨-, -, -, -, -, q5, q6, qR, qT, q8, q9, -⟩ := j10.cells
    by_cases hb : ∃ t, xs (i + 1) = nI t ∧ t < 8
    · obtain ⟨t, e1, ht⟩ := hb
      obtain ⟨S, lgs, fr, ff, wr, tp, rs9, us9, c, P1, gs, vs, tss, Lc, u1, -⟩ := id j9
      cases hop : op t with
      | false => exact step_commit_closed hL h j8.1 m1 e1 ht u1.2.2.2.2.2.2.2.2.1 q5 hop (kq.go1 (Or.inl (hF 3)))
      | true =>
        by_cases hw0 : wss t = []
        · exact st_commit_none hL h hJ hk e1 ht hop hw0 (fun H2 q => kq.go0 (Or.inl q))
        · cases hcol : (wss t).any (fun e => colM ms P (sm t) e.1) with
          | true => exact st_commit_col hL h hJ hk e1 ht hop hw0 hcol (fun H2 q => kq.go1 (Or.inl q))
          | false =>
            by_cases hle : ndR op sm (nI t) (P + 1) (ms ++ addM (P + 1) (wss t)) kd nl ps ≤ B * 256
            · rcases jE.1 with rfl | rfl
              · exact st_commit_ok hL h hJ hk e1 ht hop hw0 hcol hle (fun H2 q => kq.go0 (Or.inl q))
              · rcases jE.2.1 with rfl | rfl
                · exact st_commit_cut hL h hJ hk e1 ht hop hw0 hcol hle (fun H2 n hn q => kq H2 n hn (Or.inr q))
                · exact st_commit_late hL h hJ hk e1 ht hop hw0 hcol hle (fun H2 n hn q => kq H2 n hn (Or.inr q))
            · exact st_commit_full hL h hJ hk e1 ht hop hw0 hcol (Nat.lt_of_not_le hle) (fun H2 q => kq.go1 (Or.inl q))
    · exact step_commit_bad hL h j8.1 m1 hb (kq.go1 (Or.inl (hF 1)))
  · obtain ⟨d1, d2, d3, d4, d5, d6, d7, d8, d9, d10, d11, d12, d13, d14, d15, d16, d17, jE, e, d19⟩ := id hJ
    obtain ⟨us, ba, bo, m1, hF, hG, qV, hR⟩ := hJ.fld hk
    obtain ⟨-, -, -, -, -, q5, q6, qR, qT, q8, q9, -⟩ := d9.cells
    by_cases hb : ∃ t, xs (i + 1) = nI t ∧ t < 8
    · obtain ⟨t, e1, ht⟩ := hb
      exact step_commit_down hL h d7.1 m1 e1 ht (kq.go1 (Or.inr (hF 2)))
    · exact step_commit_bad hL h d7.1 m1 hb (kq.go1 (Or.inr (hF 1)))
theorem iv_abort (hL : L < 2 ^ 30) (h : i + 6 ≤ L) (hI : InvI k H) (hk : k < 512) (kq : Hd L xs i kc ks Q (k + 1)) : RQ (L, xs) 2000 mr_law 768 [(4, .int (nI i)), (3, .ref 225), (2, .ref 196), (1, .ref 1), (0, .ref 0)] [] H kc ks Q := by
  rcases hI with ⟨ky, B, N, P, bb, cw, cl, cp, cb, tb, l, g, rl, wss, t0, op, sm, ms, kd, pa, sz, nl, nm, ps, fa, rs, g0, hJ⟩ | ⟨ky, B, N, P, cw, cl, cp, cb, tb, l, g, rl, wss, t0, op, sm, ms, kd, pa, sz, nl, nm, ps, fa, rs, g0, hJ⟩
  · obtain ⟨j1, j2, j3, j4, j5, j6, j7, j8, j9, j10, j11, j12, j13, j14, j15, j16, j17, j18, j19, jE, e, j20⟩ := id hJ
    obtain ⟨us, ba, bo, m1, hF, hG, qV, hR⟩ := hJ.fld hk
    obtain ⟨-, -, -, -, -, q5, q6, qR, qT, q8, q9, -⟩ := j10.cells
    by_cases hb : ∃ t, xs (i + 1) = nI t ∧ t < 8
    · obtain ⟨t, e1, ht⟩ := hb
      obtain ⟨S, lgs, fr, ff, wr, tp, rs9, us9, c, P1, gs, vs, tss, Lc, u1, -⟩ := id j9
      cases hop : op t with
      | false => exact step_abort_closed hL h j8.1 m1 e1 ht u1.2.2.2.2.2.2.2.2.1 q5 hop (kq.go1 (Or.inl (hF 3)))
      | true => exact st_abort_ok hL h hJ hk e1 ht hop (fun H2 q => kq.go0 (Or.inl q))
    · exact step_abort_bad hL h j8.1 m1 hb (kq.go1 (Or.inl (hF 1)))
  · obtain ⟨d1, d2, d3, d4, d5, d6, d7, d8, d9, d10, d11, d12, d13, d14, d15, d16, d17, jE, e, d19⟩ := id hJ
    obtain ⟨us, ba, bo, m1, hF, hG, qV, hR⟩ := hJ.fld hk
    obtain ⟨-, -, -, -, -, q5, q6, qR, qT, q8, q9, -⟩ := d9.cells
    by_cases hb : ∃ t, xs (i + 1) = nI t ∧ t < 8
    · obtain ⟨t, e1, ht⟩ := hb
      exact step_abort_down hL h d7.1 m1 e1 ht (kq.go1 (Or.inr (hF 2)))
    · exact step_abort_bad hL h d7.1 m1 hb (kq.go1 (Or.inr (hF 1)))
end S67
