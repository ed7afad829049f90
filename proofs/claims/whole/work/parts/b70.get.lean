/-! ===== get: the case of the law, from every state of the invariant; written by wip/gen/get4.py ===== -/
/-- the result's row, and the tape: all else stays -/
theorem UpJ.res {ky : List (List Nat)} {k : Nat} {H H' : aH} {B N P bb : Nat} {cw cl : Int32} {cp cb : Nat} {tb : Nat → Int8} {l : Nat} {g : Nat → Int8} {rl : Nat} {wss : Nat → List aE} {t0 : aTr} {op : Nat → Bool} {sm : Nat → Nat} {ms : List aMV} {kd pa sz nl : Nat → Nat} {nm : Nat → Int8} {ps : List aPc} {fa rs : Int32} {g0 : Nat → Int8} {g' : Nat → Int8} {rl' : Nat} {g0' : Nat → Int8} {tb' : Nat → Int8} {l' : Nat} {fa' : Int32} (hJ : UpJ ky k H B N P bb cw cl cp cb tb l g rl wss t0 op sm ms kd pa sz nl nm ps fa rs g0) (hk : k < 512) (hC : ClsA H' B P 1 cw cl cp cb tb' l' g' rl' wss t0) (hR : RefI H' fa' (B * 256) 0 cw cl tb' l' (nI rl') g0' P ms op sm wss kd pa sz nl nm ps) (hl : l' ≤ l) (hrl : rl' ≤ 1000) (hg : ∀ j, j < rl' → g' j = g0' j) (hlow : ∀ a, (7 ≤ a ∧ a < 10) ∨ (71 ≤ a ∧ a < 195) → H'[a]? = H[a]?) (he : ∃ e, H'[224]? = some (kJ 1 e)) : UpI (k + 1) H' := by
  obtain ⟨j1, j2, j3, j4, j5, j6, j7, j8, j9, j10, j11, j12, j13, j14, j15, j16, j17, j18, j19, ⟨e1, e0, e2, e3, e4, e5, e6, e7, e8⟩, j20⟩ := hJ
  have h11 := j11.1
  exact ⟨ky, B, N, P, bb, cw, cl, cp, cb, tb', l', g', rl', wss, t0, op, sm, ms, kd, pa, sz, nl, nm, ps, fa', nI rl', g0', j1, j2, by omega, by omega, j5, j6, j7, hC, j9.low (by omega) hlow, hR, ⟨by omega, j11.2⟩, j12, j13, j14, j15, j16, j17, rfl, hg, ⟨e1, e0, ⟨hrl, e2.2⟩, e3, e4, e5, e6, by omega, e8⟩, he⟩
theorem rel_len {op : Nat → Bool} {sm : Nat → Nat} {c : Nat → Int8} {vs : List aV} {ms : List aMV} (h : RelU op sm c vs ms) (hv : ∀ v ∈ vs, KeyV v) : ∀ w ∈ ms, (w.2.2.getD []).length ≤ 1000 := fun w hw => by
  obtain ⟨zb, hp, -⟩ := h
  obtain ⟨v, hm, rfl⟩ := List.mem_map.mp (hp.mem_iff.mpr hw)
  have hl := KeyV.len (hv v (List.mem_filter.mp hm).1)
  show ((v.2.2.2.1.map (fun n => sl c (v.2.2.1 + 8 + v.1.length) n)).getD []).length ≤ 1000
  cases e : v.2.2.2.1 with
  | none => exact Nat.zero_le _
  | some n =>
    rw [e] at hl
    show (sl c (v.2.2.1 + 8 + v.1.length) n).length ≤ 1000
    rw [sl_length]
    exact hl
section S70
variable {L i k kc ks : Nat} {xs : Nat → Int32} {Q : tO × aH × Nat × Nat → Prop} {H : aH}
theorem iv_get (hL : L < 2 ^ 30) (h : i + 6 ≤ L) (hI : InvI k H) (hk : k < 512) (kq : Hd L xs i kc ks Q (k + 1)) : RQ (L, xs) 2000 mr_law 572 [(4, .int (nI i)), (3, .ref 225), (2, .ref 196), (1, .ref 1), (0, .ref 0)] [] H kc ks Q := by
  rcases hI with ⟨ky, B, N, P, bb, cw, cl, cp, cb, tb, l, g, rl, wss, t0, op, sm, ms, kd, pa, sz, nl, nm, ps, fa, rs, g0, hJ⟩ | ⟨ky, B, N, P, cw, cl, cp, cb, tb, l, g, rl, wss, t0, op, sm, ms, kd, pa, sz, nl, nm, ps, fa, rs, g0, hJ⟩
  · obtain ⟨j1, j2, j3, j4, j5, j6, j7, j8, j9, j10, j11, j12, j13, j14, j15, j16, j17, j18, j19, jE, e, j20⟩ := id hJ
    obtain ⟨us, ba, bo, m1, hF, hG, qV, hR⟩ := hJ.fld hk
    obtain ⟨-, -, -, -, -, q5, q6, qR, qT, q8, q9, -⟩ := j10.cells
    have hl := j11.1
    obtain ⟨S, lgs, fr, ff, wr, tp, rs9, us9, c, P1, gs, vs, tss, Lc, u1, u2, ⟨⟨r1, r2, r3, r4⟩, -⟩, -⟩ := id j9
    obtain ⟨⟨tf, pq, ms9, mt9, sq9, tu9, ⟨lg, pi, hY, hlg, hlc, -⟩, hC, -⟩, hO, -, -, -, -, hV, hRX, hs, hA⟩ := id u1
    obtain ⟨kf, kl, mo, pl, le, al, od, sp, szv, ss, ac, hVA, hVW, hvs⟩ := id hV
    have hw7 := u2.2.2.2.2.2.2.1
    have hlg9 : ∀ j, j < lgs.length → lg j < 2 ^ 30 := fun j hj => by
      obtain ⟨b, hb9⟩ := lt_get hj
      rw [hlg j b hb9]
      have := (hO.1 b (List.mem_of_getElem? hb9)).2
      omega
    have hrec := recs_ok hlg hO hRX hw7 (by omega)
    by_cases hb : (∃ t, xs (i + 1) = nI t ∧ t < 8) ∧ 1 ≤ l ∧ l ≤ 40
    · obtain ⟨⟨t, e1, ht⟩, hl1, hl2⟩ := hb
      cases hop : op t with
      | false =>
        refine step_get_closed hL h j8.1 j8.2.1 m1 e1 ht hl1 hl2 hs q5 hop (kq.go1 (Or.inl (hJ.row (cw' := cw) (cl' := cl) (cp' := cp) (cb' := cb) (fa' := 3) (tb' := tb) (l' := 0) hk ?_ ?_ jE.1 jE.2.1 (Nat.zero_le _) (Nat.zero_le _) j6 j7 ?_ ⟨e, ?_⟩)))
        · obtain ⟨q, p, h5, h6⟩ := j8.2.2.2.2.2.1
          exact j8.small ((set_far (by decide)).trans ((set_far (by decide)).trans j8.1)) ((set_far (by decide)).trans (get_set j8.2.1)) ((set_far (by decide)).trans ((set_far (by decide)).trans j8.2.2.1)) ((set_far (by decide)).trans ((set_far (by decide)).trans j8.2.2.2.1)) ((set_far (by decide)).trans ((set_far (by decide)).trans j8.2.2.2.2.1)) ⟨q, p, (set_far (by decide)).trans ((set_far (by decide)).trans h5), (set_far (by decide)).trans ((set_far (by decide)).trans h6)⟩ (fun a a1 a2 => (set_far (by omega)).trans (set_far (by omega)))
        · exact hR _ 3 0 cw cl tb 0 rs g0 (get_set ((set_far (by decide)).trans m1)) ((set_far (by decide)).trans ((set_far (by decide)).trans q8)) ((set_far (by decide)).trans ((set_far (by decide)).trans q9)) (fun a a1 a2 => (set_far (by omega)).trans (set_far (by omega)))
        · exact fun a ha => (set_far (by omega)).trans (set_far (by omega))
        · exact (set_far (by decide)).trans ((set_far (by decide)).trans j20)
      | true =>
        obtain ⟨q, p, h5, h6⟩ := j8.2.2.2.2.2.1
        obtain ⟨wq, h10, hwq⟩ := j8.2.2.2.2.2.2.1
        obtain ⟨D, Sx, K, E, hBA, hBL, hB4, hB5⟩ := (j8.2.2.2.2.2.2.2.1 t ht).1
        obtain ⟨w1, w2, w3⟩ := j16 t ht
        have hws : ∀ e ∈ wss t, (e.2.getD []).length ≤ 1000 := fun e he => (w2 (pfx e) (List.mem_map.mpr ⟨e, he, rfl⟩)).len.2.2
        have hms : ∀ w ∈ ms, (w.2.2.getD []).length ≤ 1000 := rel_len r2 (fun v hv => (hw7 v hv).2.1)
        obtain ⟨x, H1, c1, rv, c2, c3, c4, c5, c6, c7, c8⟩ := ri_get (sc := (L, xs)) (d := 1994) j8.1 j8.2.1 j8.2.2.1 j8.2.2.2.1 j8.2.2.2.2.1 h5 h6 hl1 hl2 hs (j15 t ht) ht hop h10 (hwq t ht) (by omega) (by omega) hVA hVW hvs hBA (hBL.ok hB4 hB5) hBL hws hC hY (by omega) hlc hlg9 hA.1 hrec
        rw [rel_look r2 r1.one] at c2
        have h224 : H1[224]? = some (kJ 1 e) := (c8 224 (by decide) (by decide) (by decide) (by decide) (by decide)).trans j20
        have hr0 : RefI (H1.set 224 (kJ 1 (va_up e 0 x.toInt64))) fa (B * 256) 0 cw cl tb l rs g0 P ms op sm wss kd pa sz nl nm ps := j10.far (fun a a1 a2 => (set_far (by omega)).trans (c8 a (by omega) (by omega) (by omega) (by omega) (by omega)))
        obtain ⟨us2, ba2, bo2, n1, ⟨⟨bf, ko, kn, vo, vz, vm, hMA, hML⟩, -, -, -, -, hba, -⟩, p5, p6, ⟨ro, fi, wk, wn, wz, wb, pR, pT⟩, -, p8, p9, hR2⟩ := hr0.cells
        obtain ⟨y, H2, d1, rw2, d2, d3, d4, ⟨g2, d5, d6, d7⟩, d8⟩ := ri_mget (sc := (L, xs)) (d := 1996) n1 hMA hML j11.2.2.1 hba pR (pT t ht) ht p6 (j11.2.2.2.1 t ht) p8 p5 hop hl1 hl2 p9 j9.oneM hws hms
        have hrv : rw2 = rv := d2.trans c2.symm
        rw [hrv] at d3 d4 d6 d7
        have hxy : y = x := d3.trans c3.symm
        rw [hxy] at d1
        obtain ⟨g1, f3, f4, f5, f6⟩ := c4
        have hlow : ∀ a, a < 195 → H2[a]? = H1[a]? := fun a ha => (d8 a (by omega) (by omega)).trans (set_far (by omega))
        have h2 : H2[224]? = some (kJ 1 (va_up e 0 x.toInt64)) := (d8 224 (by decide) (by decide)).trans (get_set h224)
        refine gs_ok6 (c1 := 0) (s1 := 0) (c2 := 0) (s2 := 0) (x := x) hL h j8.1 (by rw [e1]; exact c1) h224 ((c8 195 (by decide) (by decide) (by decide) (by decide) (by decide)).trans m1) (by rw [e1]; exact d1) d4 rfl h2 (kq.go0 (Or.inl (hJ.res (g' := g1) (rl' := (rv.getD []).length) (g0' := g2) (l' := 0) (tb' := tb) (fa' := 0) hk ?_ ?_ (Nat.zero_le _) d7 ?_ ?_ ⟨_, h2⟩)))
        · exact j8.small ((hlow 0 (by decide)).trans ((c8 0 (by decide) (by decide) (by decide) (by decide) (by decide)).trans j8.1)) ((hlow 1 (by decide)).trans c7) ((hlow 2 (by decide)).trans ((c8 2 (by decide) (by decide) (by decide) (by decide) (by decide)).trans j8.2.2.1)) ((hlow 3 (by decide)).trans f3) ((hlow 4 (by decide)).trans f4) ⟨_, _, (hlow 5 (by decide)).trans c5, (hlow 6 (by decide)).trans c6⟩ (fun a a1 a2 => (hlow a (by omega)).trans (c8 a (by omega) (by omega) (by omega) (by omega) (by omega)))
        · exact hR2 H2 0 0 cw cl tb 0 (nI (rv.getD []).length) g2 d4 ((d8 196 (by decide) (by decide)).trans p8) d5 (fun a a1 a2 => d8 a (by omega) (by omega))
        · intro j hj
          have h9 := sl_inj (f5.trans d6.symm) j hj
          rwa [Nat.zero_add] at h9
        · exact fun a ha => (hlow a (by omega)).trans (c8 a (by omega) (by omega) (by omega) (by omega) (by omega))
    · exact step_get_bad hL h j8.1 j8.2.1 m1 hl hb (kq.go1 (Or.inl (hF 1)))
  · obtain ⟨d1, d2, d3, d4, d5, d6, d7, d8, d9, d10, d11, d12, d13, d14, d15, d16, d17, jE, e, d19⟩ := id hJ
    obtain ⟨us, ba, bo, m1, hF, hG, qV, hR⟩ := hJ.fld hk
    obtain ⟨-, -, -, -, -, q5, q6, qR, qT, q8, q9, -⟩ := d9.cells
    have hl := d10.1
    by_cases hb : (∃ t, xs (i + 1) = nI t ∧ t < 8) ∧ 1 ≤ l ∧ l ≤ 40
    · obtain ⟨⟨t, e1, ht⟩, hl1, hl2⟩ := hb
      exact step_get_down hL h d7.1 d7.2.1 m1 e1 ht hl1 hl2 (kq.go1 (Or.inr (hF 2)))
    · exact step_get_bad hL h d7.1 d7.2.1 m1 hl hb (kq.go1 (Or.inr (hF 1)))
end S70
